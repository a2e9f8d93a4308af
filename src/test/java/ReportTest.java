/** Promises 6 to 12: count, cabin, meal, passenger, trolley, held, topUpAt; and the order of section 2. */
final class ReportTest {
    private static final String FLIGHT = "good time 100 20;lead 15;cabin f 4 10;cabin y 9;"
        + "meal beef menu f 2 2 50 offers a;meal rice menu f 1 1 40;meal soup menu y 5 3 9 offers ab;"
        + "meal vg special 1 70 offers abc;meal hl special 2 70 offers ad;trolley y 7;trolley f 10;trolley y 20;"
        + "guest f wish rice;guest y needs a;guest f needs a;guests y 3;guest y needs h wish soup; = 7\n";

    public static void main(String[] args) {
        count();
        cabin();
        meal();
        passenger();
        trolley();
        topUps();
        behindService();
        orders();
        Script.end();
    }

    private static void count() {
        Script.run("count", FLIGHT + """
            count 0 = 1
            count 1 = 2
            count 2 = 5
            count 3 = 7
            count 4 = 3
            count 5 = 100
            count 6 = 0
            count 7 = 0
            count 10 = 20
            count 11 = 15
            // f: 1 plain passenger, 2 units, beef 4/3 and rice 2/3; y: 3 plain, 3 units; special: soup, rice does not suit
            meal 0 6 = 2
            meal 1 6 = 1
            meal 2 6 = 4
            meal 3 6 = 0
            meal 4 6 = 0
            count 8 = 7
            count 9 = 0
            store 0 2 = 2
            store 3 1 = 1
            topUp 0 4 = 1
            count 6 = 1
            count 7 = 3
            count 9 = 3
            count -1 = throws.IllegalArgumentException
            count 12 = throws.IllegalArgumentException
            count 2147483647 = throws.IllegalArgumentException
            advance 79 = 1
            count 5 = 21
            count 0 = 1
            advance 1 = 0
            count 5 = 20
            count 0 = 2
            advance 20 = 0
            count 5 = 0
            count 0 = 2
            serve = 3
            count 0 = 3
            """);
    }

    private static void cabin() {
        Script.run("cabin", FLIGHT + """
            cabin 0 0 = 4
            cabin 0 1 = 10
            cabin 0 2 = 2
            cabin 0 3 = 1
            cabin 0 4 = 1
            cabin 0 5 = 10
            cabin 0 6 = 3
            cabin 0 7 = 5
            cabin 1 0 = 9
            cabin 1 1 = 0
            cabin 1 2 = 5
            cabin 1 3 = 2
            cabin 1 4 = 2
            cabin 1 5 = 27
            cabin 1 6 = 4
            cabin 1 7 = 12
            store 2 3 = 3
            cabin 1 5 = 18
            cabin 0 5 = 10
            cabin 2 0 = throws.NoSuchElementException
            cabin -1 0 = throws.NoSuchElementException
            cabin 2 8 = throws.NoSuchElementException
            cabin 0 8 = throws.IllegalArgumentException
            cabin 0 -1 = throws.IllegalArgumentException
            """);
    }

    private static void meal() {
        Script.run("meal", FLIGHT + """
            meal 0 0 = 0
            meal 0 1 = 2
            meal 0 2 = 2
            meal 0 3 = 50
            meal 0 4 = 1
            meal 2 0 = 1
            meal 2 4 = 3
            meal 4 0 = -1
            meal 4 1 = 0
            meal 4 2 = 2
            meal 4 3 = 70
            meal 4 4 = 9
            meal 2 9 = 4
            store 2 1 = 1
            meal 2 5 = 1
            meal 2 7 = 0
            meal 2 9 = 3
            topUp 2 2 = 1
            topUp 0 1 = 2
            meal 2 7 = 2
            meal 2 9 = 1
            meal 2 8 = 0
            topUp 2 2 = 3
            meal 2 7 = 4
            meal 2 9 = 0
            meal 2 6 = 4
            meal 5 0 = throws.NoSuchElementException
            meal -1 0 = throws.NoSuchElementException
            meal 5 10 = throws.NoSuchElementException
            meal 0 10 = throws.IllegalArgumentException
            meal 0 -1 = throws.IllegalArgumentException
            """);
    }

    private static void passenger() {
        Script.run("passenger", FLIGHT + """
            // suits: 27 all of f and special; the cheapest is rice
            passenger 0 0 = 0
            passenger 0 1 = 0
            passenger 0 2 = 1
            passenger 0 3 = -1
            passenger 0 4 = 27
            passenger 0 5 = 1
            passenger 1 0 = 1
            passenger 1 1 = 1
            passenger 1 4 = 28
            passenger 1 5 = 2
            passenger 2 4 = 25
            passenger 2 5 = 0
            passenger 6 1 = 128
            passenger 6 2 = 2
            passenger 6 4 = 0
            passenger 6 5 = -1
            passenger 7 0 = throws.NoSuchElementException
            passenger -1 0 = throws.NoSuchElementException
            passenger 7 6 = throws.NoSuchElementException
            passenger 0 6 = throws.IllegalArgumentException
            passenger 0 -1 = throws.IllegalArgumentException
            """);
        Script.run("of the cheapest the one with the lowest number; all diets are needed", """
            good cabin a 5;meal x special 1 9 offers ab;meal y special 1 8 offers abc;meal z special 1 8 offers abd;guest a needs ab;guest a needs bd;guest a needs abcd; = 3
            passenger 0 5 = 1
            passenger 0 4 = 7
            passenger 1 4 = 4
            passenger 1 5 = 2
            passenger 2 4 = 0
            passenger 2 5 = -1
            """);
    }

    private static void trolley() {
        Script.run("trolley and held", FLIGHT + """
            trolley 0 0 = 1
            trolley 1 0 = 0
            trolley 2 0 = 1
            trolley 0 1 = 7
            trolley 2 1 = 20
            trolley 2 2 = 20
            trolley 2 3 = 0
            store 2 3 = 3
            store 3 2 = 2
            held 0 2 = 2
            held 2 2 = 1
            held 0 3 = 1
            held 1 3 = 1
            held 2 3 = 0
            held 1 2 = 0
            trolley 0 2 = 0
            trolley 0 3 = 3
            trolley 1 2 = 9
            trolley 1 3 = 1
            trolley 2 2 = 17
            trolley 2 3 = 1
            trolley 3 0 = throws.NoSuchElementException
            trolley -1 0 = throws.NoSuchElementException
            trolley 3 4 = throws.NoSuchElementException
            trolley 0 4 = throws.IllegalArgumentException
            trolley 0 -1 = throws.IllegalArgumentException
            held 3 0 = throws.NoSuchElementException
            held 0 5 = throws.NoSuchElementException
            held -1 0 = throws.NoSuchElementException
            held 0 -1 = throws.NoSuchElementException
            """);
    }

    private static void topUps() {
        Script.run("topUpAt", FLIGHT + """
            topUp 2 3 = 1
            advance 5 = 0
            topUp 0 7 = 2
            topUp 1 9 = 3
            topUpAt 0 0 = 2
            topUpAt 0 1 = 3
            topUpAt 0 2 = 85
            topUpAt 1 0 = 0
            topUpAt 1 1 = 7
            topUpAt 1 2 = 80
            topUpAt 2 0 = 1
            topUpAt 2 1 = 9
            topUpAt 2 2 = 80
            topUpAt 3 0 = throws.IndexOutOfBoundsException
            topUpAt -1 0 = throws.IndexOutOfBoundsException
            topUpAt 3 3 = throws.IndexOutOfBoundsException
            topUpAt 0 3 = throws.IllegalArgumentException
            topUpAt 0 -1 = throws.IllegalArgumentException
            advance 10 = 0
            topUpAt 0 0 = 0
            topUpAt 1 1 = 9
            topUpAt 2 0 = throws.IndexOutOfBoundsException
            advance 5 = 11
            topUpAt 0 0 = throws.IndexOutOfBoundsException
            """);
    }

    private static void behindService() {
        Script.run("reports behind the service", FLIGHT + """
            loadOrder = 7
            store 4 1 = 1
            topUp 2 5 = 1
            serve = 6
            count 0 = 3
            count 3 = 7
            count 5 = 0
            count 6 = 0
            count 7 = 8
            count 8 = 7
            count 9 = 4
            count 10 = 20
            count 11 = 15
            topUpAt 0 0 = throws.IndexOutOfBoundsException
            meal 0 5 = 2
            meal 0 6 = 2
            meal 0 7 = 0
            meal 2 7 = 0
            meal 0 8 = 1
            meal 1 8 = 1
            meal 2 8 = 4
            meal 3 8 = 0
            meal 0 9 = 0
            passenger 0 3 = 1
            passenger 1 3 = 2
            passenger 2 3 = 0
            passenger 3 3 = 2
            passenger 6 3 = -1
            mealFor 2 = 0
            trolley 1 2 = 3
            trolley 1 3 = 4
            held 1 0 = 2
            held 1 4 = 1
            cabin 0 5 = 3
            cabin 1 7 = 12
            writes 1 = 2xbeef 1xrice 1xhl
            """);
    }

    private static void orders() {
        Script.run("the spare is rounded up, the shares by the greatest remainders", """
            good cabin a 40 50;meal x menu a 1 1 9;meal y menu a 1 1 9;meal z menu a 1 1 9;guests a 3; = 3
            // 4.5 rounded up: 5 units, 1 2/3 each
            meal 0 6 = 2
            meal 1 6 = 2
            meal 2 6 = 1
            board 0 0 -1 = 3
            // 6 units
            meal 0 6 = 2
            meal 1 6 = 2
            meal 2 6 = 2
            board 0 0 -1 = 4
            // 7.5: 8 units, 2 2/3 each
            meal 0 6 = 3
            meal 1 6 = 3
            meal 2 6 = 2
            good cabin a 40;meal x menu a 1 1 9;meal y menu a 2 1 9;meal z menu a 4 1 9;guests a 4; = 4
            // 4/7, 8/7, 16/7
            meal 0 6 = 1
            meal 1 6 = 1
            meal 2 6 = 2
            good cabin a 40 1;meal x menu a 99 1 9;meal y menu a 98 1 9;guests a 40; = 40
            // 40.4: 41 units, 20 119/197 and 20 78/197
            meal 0 6 = 21
            meal 1 6 = 20
            count 8 = 41
            """);
        Script.run("the remainders of another cabin do not count", """
            good cabin a 9;cabin b 9;meal w menu a 5 1 9;meal x menu a 4 1 9;meal y menu b 3 1 9;meal z menu b 4 1 9;guests a 1;guests b 1; = 2
            // 5/9 and 4/9, then 3/7 and 4/7: x has the remainder 4 of 9
            meal 0 6 = 1
            meal 1 6 = 0
            meal 2 6 = 0
            meal 3 6 = 1
            """);
        Script.run("special passengers are ordered apart, and cabins each for itself", """
            good cabin a 40 10;cabin b 9 50;cabin c 9;meal x menu b 1 2 9 offers a;meal y special 3 8 offers ab;meal z menu b 1 1 9 offers a;guest a needs a;guest b needs a;guest b needs b;guests b 1;guests a 5;guests c 2;guest c needs c; = 12
            // b: 1.5 rounded up is 2 units; a and c have no menu
            meal 0 6 = 1
            meal 1 6 = 3
            meal 2 6 = 1
            cabin 0 7 = 0
            cabin 1 7 = 3
            count 8 = 5
            setNeeds 2 1 = 2
            meal 1 6 = 3
            setNeeds 2 0 = 1
            // b: 2 plain passengers, 3 units
            meal 0 6 = 2
            meal 1 6 = 2
            meal 2 6 = 1
            cabin 1 7 = 5
            leave 3 = 11
            meal 0 6 = 1
            change 2 0 = 1
            // none but a special passenger is left in b
            meal 0 6 = 0
            meal 2 6 = 0
            meal 1 6 = 2
            """);
    }
}
