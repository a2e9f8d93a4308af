/** Promises 23 to 29: outlook, mealFor, serve, account, wasteShare, wasteBits, costBits. */
final class ServiceTest {
    public static void main(String[] args) {
        matching();
        plainPassengers();
        serve();
        shares();
        Script.end();
    }

    private static void matching() {
        Script.run("as many as possible, then the first way by passengers and meals", """
            good cabin a 9;meal x special 1 5 offers ab;meal y special 1 7 offers abc;trolley a 9;guest a needs a;guest a needs b;guest a needs c; = 3
            mealFor 0 = -1
            store 0 1 = 1
            mealFor 0 = 0
            mealFor 1 = -1
            mealFor 2 = -1
            store 1 1 = 1
            // 0 goes first, and 1 may take what is left: x, y, none
            mealFor 0 = 0
            mealFor 1 = 1
            mealFor 2 = -1
            outlook 0 = 2
            outlook 1 = 2
            outlook 2 = 1
            store 0 1 = 2
            mealFor 0 = 0
            mealFor 1 = 0
            mealFor 2 = 1
            outlook 0 = 3
            mealFor 3 = throws.NoSuchElementException
            mealFor -1 = throws.NoSuchElementException
            """);
        Script.run("meals of the menu and of other cabins", """
            good cabin a 9;cabin b 9;meal x menu b 1 1 5 offers a;meal y menu a 1 1 7 offers a;meal z special 1 7 offers a;trolley b 2;trolley a 9;guest a needs a;guest a needs a;guest a;guest b needs a; = 4
            store 0 1 = 1
            store 1 1 = 1
            store 2 1 = 1
            held 0 2 = 1
            // the special meal in a trolley of b is for a passenger of a
            mealFor 0 = 1
            mealFor 1 = 2
            mealFor 2 = -1
            mealFor 3 = 0
            change 0 1 = 0
            mealFor 0 = 0
            mealFor 1 = 1
            mealFor 3 = 2
            setNeeds 3 0 = 1
            // special meals are not for plain passengers
            mealFor 3 = -1
            outlook 3 = 1
            outlook 4 = 7
            """);
    }

    private static void plainPassengers() {
        Script.run("wishes, then the meal with the most units", """
            good cabin a 9;cabin b 9;meal x menu a 1 1 5;meal y menu a 1 1 7;meal z menu a 1 1 7;meal v menu b 1 1 4;trolley a 20;trolley b 5;guest a wish x;guest a;guest a wish x;guest a;guest a wish z;guest b;guest b wish v; = 7
            store 0 1 = 1
            store 1 2 = 2
            store 2 2 = 2
            store 3 1 = 1
            mealFor 0 = 0
            mealFor 1 = 1
            mealFor 2 = 2
            mealFor 3 = 1
            mealFor 4 = 2
            mealFor 5 = 3
            mealFor 6 = -1
            outlook 0 = 0
            outlook 1 = 6
            outlook 2 = 1
            outlook 3 = 0
            outlook 4 = 0
            outlook 5 = 2
            store 2 3 = 5
            mealFor 1 = 2
            mealFor 2 = 2
            mealFor 3 = 2
            mealFor 4 = 2
            outlook 3 = 3
            outlook 4 = 21
            """);
        Script.run("special passengers go first, and their wish does not count", """
            good cabin a 9;meal x menu a 1 1 5 offers a;meal y menu a 1 1 7 offers a;trolley a 20;guest a wish x;guest a needs a wish y; = 2
            store 0 1 = 1
            mealFor 0 = -1
            mealFor 1 = 0
            store 1 1 = 1
            mealFor 0 = 1
            mealFor 1 = 0
            outlook 5 = 0
            setNeeds 1 0 = 1
            mealFor 0 = 0
            mealFor 1 = 1
            outlook 5 = 2
            outlook 0 = 0
            """);
        Script.run("what met no wish by chance", """
            good cabin a 9;meal x menu a 1 1 5;trolley a 20;guest a;guest a; = 2
            store 0 2 = 2
            outlook 5 = 0
            outlook 1 = 2
            outlook 6 = throws.IllegalArgumentException
            outlook -1 = throws.IllegalArgumentException
            """);
    }

    private static void serve() {
        Script.run("serve", """
            good time 50 60;cabin a 9;meal x menu a 1 1 500 offers a;meal y special 1 70 offers b;trolley a 20;guest a wish x;guest a needs b;guest a needs c;guest a; = 4
            account 6 = throws.IllegalArgumentException
            account -1 = throws.IllegalArgumentException
            count 0 = 2
            serve = 0
            account 4 = 4
            account 5 = 1
            wasteShare = 0.0
            costBits = 0
            undo = 0
            account 4 = 0
            account 5 = 0
            good time 80 60;cabin a 9;meal x menu a 1 1 500 offers a;meal y special 1 70 offers b;trolley a 20;guest a wish x;guest a needs b;guest a needs c;guest a; = 4
            store 0 4 = 4
            store 1 2 = 2
            topUp 0 1 = 1
            passenger 0 3 = -1
            meal 0 8 = 0
            serve = 3
            account 0 = 6
            account 1 = 3
            account 2 = 3
            account 3 = 1070
            account 4 = 1
            account 5 = 1
            count 0 = 3
            count 5 = 0
            count 6 = 0
            count 7 = 6
            topUpAt 0 0 = throws.IndexOutOfBoundsException
            passenger 0 3 = 0
            passenger 1 3 = 1
            passenger 2 3 = -1
            passenger 3 3 = 0
            meal 0 8 = 2
            meal 1 8 = 1
            outlook 0 = 1
            outlook 1 = 3
            outlook 2 = 1
            outlook 3 = 3
            outlook 4 = 1070
            outlook 5 = 1
            mealFor 1 = 1
            mealFor 2 = -1
            serve = throws.IllegalStateException
            reason = 1
            account 5 = 1
            wasteBits = float 3/6
            costBits = double 1070/1
            good cabin b 1;meal y special 1 1;trolley b 1; = 0
            store 0 1 = 1
            serve = 0
            account 0 = 7
            account 1 = 3
            account 2 = 4
            account 3 = 1071
            account 4 = 1
            account 5 = 2
            wasteBits = float 4/7
            costBits = double 1071/2
            """);
    }

    private static void shares() {
        Script.run("shares and their bits", """
            good cabin a 9;meal x menu a 1 1 9999;trolley a 40;trolley a 40;guests a 9; = 9
            store 0 10 = 10
            serve = 9
            wasteShare = 0.1
            wasteBits = float 1/10
            costBits = double 9999/1
            undo = 1
            wasteShare = 0.0
            wasteBits = 0
            unload 0 1 = 9
            serve = 9
            wasteShare = 0.0
            wasteBits = 0
            costBits = 0
            undo = 2
            leave 8 = 8
            leave 7 = 7
            leave 6 = 6
            leave 5 = 5
            leave 4 = 4
            leave 3 = 3
            leave 2 = 2
            leave 1 = 1
            leave 0 = 0
            store 0 71 = 80
            serve = 0
            wasteShare = 1.0
            wasteBits = float 1/1
            costBits = double 799920/1
            good cabin a 9; = 0
            serve = 0
            costBits = double 799920/2
            good cabin a 9; = 0
            serve = 0
            costBits = double 799920/3
            good cabin a 9;meal x menu a 1 1 1;trolley a 7;guests a 7; = 7
            loadOrder = 7
            serve = 7
            wasteBits = float 80/87
            costBits = double 799920/4
            """);
        Script.run("a cost of less than one a service", """
            good cabin a 9;meal x special 1 1;trolley a 7; = 0
            store 0 1 = 1
            serve = 0
            good cabin a 9;meal x menu a 1 1 1;trolley a 40;guests a 9; = 9
            loadOrder = 9
            serve = 9
            good cabin a 9;meal x menu a 1 1 1;trolley a 40;guests a 9; = 9
            loadOrder = 9
            serve = 9
            costBits = double 1/3
            wasteBits = float 1/19
            """);
    }
}
