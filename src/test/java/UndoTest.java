/** Promises 30 to 32: undo, keep, restore. */
final class UndoTest {
    private static final String FLIGHT = "good time 100 20;lead 10;cabin f 9;cabin y 9;"
        + "meal beef menu f 2 2 50 offers a;meal soup menu y 5 3 9 offers ab;meal vg special 1 70 offers abc;"
        + "trolley y 7;trolley f 5;trolley y 8;guests f 2;guest y wish soup;guest y needs c; = 4\n";

    public static void main(String[] args) {
        undo();
        twelve();
        slots();
        Script.end();
    }

    private static void undo() {
        Script.run("undo of each act", FLIGHT + """
            undo = throws.IllegalStateException
            reason = 0
            board 0 3 0 = 4
            change 2 0 = 1
            leave 0 = 4
            setNeeds 2 7 = 4
            store 0 3 = throws.IllegalStateException
            setNeeds 3 1 = 3
            count 9 = 5
            undo = 4
            passenger 3 1 = 3
            undo = 3
            passenger 2 1 = 4
            undo = 2
            count 3 = 5
            passenger 4 0 = 0
            passenger 4 1 = 3
            passenger 4 2 = 0
            undo = 1
            passenger 2 0 = 1
            passenger 2 2 = 1
            undo = 0
            count 3 = 4
            cabin 0 2 = 2
            undo = throws.IllegalStateException
            loadOrder = 4
            unload 0 1 = 1
            store 2 1 = 2
            topUp 1 2 = 1
            advance 10 = 0
            count 7 = 6
            undo = 4
            count 7 = 4
            count 5 = 100
            count 6 = 1
            topUpAt 0 1 = 2
            topUpAt 0 2 = 90
            undo = 3
            count 6 = 0
            meal 1 7 = 0
            undo = 2
            meal 2 5 = 1
            undo = 1
            held 1 0 = 2
            undo = 0
            count 7 = 0
            reason = 3
            """);
        Script.run("top-ups come back in their order", FLIGHT + """
            topUp 1 2 = 1
            advance 3 = 0
            topUp 0 1 = 2
            advance 7 = 0
            topUpAt 0 0 = 0
            topUp 2 5 = 2
            advance 10 = 0
            undo = 5
            undo = 4
            undo = 3
            count 6 = 2
            topUpAt 0 0 = 1
            topUpAt 0 1 = 2
            topUpAt 0 2 = 90
            topUpAt 1 0 = 0
            topUpAt 1 1 = 1
            topUpAt 1 2 = 87
            """);
        Script.run("undo of the service", FLIGHT + """
            loadOrder = 4
            topUp 0 1 = 1
            mealFor 0 = 0
            serve = 4
            serve = throws.IllegalStateException
            count 9 = 3
            account 1 = 4
            undo = 2
            count 0 = 1
            count 5 = 100
            count 6 = 1
            account 0 = 0
            account 1 = 0
            account 5 = 0
            passenger 0 3 = -1
            meal 0 8 = 0
            mealFor 0 = 0
            reason = 1
            setNeeds 0 255 = 0
            mealFor 0 = -1
            undo = 2
            mealFor 0 = 0
            unload 0 1 = 1
            mealFor 1 = -1
            undo = 2
            mealFor 1 = 0
            """);
        Script.run("what is not an act is not undone", FLIGHT + """
            store 2 1 = 1
            writes 0 = 1xvg
            feeds lead 5; = 20
            keep 0 = 1
            undo = 0
            outputByte 2 = 118
            restore 0 = 1
            count 7 = 1
            load 7 = 0
            """);
    }

    private static void twelve() {
        StringBuilder lines = new StringBuilder(FLIGHT);
        for (int act = 1; act <= 15; act++) {
            lines.append("setNeeds 0 ").append(act).append(" = ").append(act - 1).append('\n');
            lines.append("count 9 = ").append(Math.min(act, 12)).append('\n');
        }
        for (int left = 11; left >= 0; left--) {
            lines.append("undo = ").append(left).append('\n');
            lines.append("passenger 0 1 = ").append(left + 3).append('\n');
        }
        lines.append("undo = throws.IllegalStateException\npassenger 0 1 = 3\n");
        lines.append("setNeeds 0 9 = 3\nundo = 0\npassenger 0 1 = 3\n");
        Script.run("the latest 12 acts", lines.toString());
        StringBuilder refused = new StringBuilder(FLIGHT);
        for (int act = 1; act <= 13; act++) {
            refused.append("setNeeds 0 ").append(act).append(" = ").append(act - 1).append('\n');
        }
        refused.append("store 2 99 = throws.IllegalStateException\nstore 0 9 = throws.IllegalStateException\n");
        refused.append("count 9 = 12\n");
        for (int left = 11; left >= 0; left--) {
            refused.append("undo = ").append(left).append('\n');
        }
        Script.run("a refused act drops none of the 12", refused + "passenger 0 1 = 1\n");
    }

    private static void slots() {
        Script.run("slots", FLIGHT + """
            restore 0 = throws.NoSuchElementException
            restore 1 = throws.NoSuchElementException
            restore 2 = throws.IllegalArgumentException
            restore -1 = throws.IllegalArgumentException
            keep 2 = throws.IllegalArgumentException
            keep -1 = throws.IllegalArgumentException
            store 0 1 = 1
            keep 0 = 1
            count 9 = 1
            topUp 0 1 = 1
            advance 5 = 0
            board 1 0 -1 = 4
            advance 76 = 0
            keep 1 = 2
            serve = 2
            count 9 = 6
            restore 0 = 1
            count 9 = 0
            undo = throws.IllegalStateException
            account 5 = 0
            count 3 = 4
            count 5 = 100
            count 6 = 0
            count 7 = 1
            mealFor 1 = -1
            setNeeds 0 1 = 0
            restore 1 = 2
            count 3 = 5
            count 5 = 19
            count 7 = 2
            mealFor 1 = 0
            passenger 0 1 = 0
            restore 0 = 1
            passenger 0 1 = 0
            count 5 = 100
            serve = 1
            keep 0 = 3
            restore 1 = 2
            account 5 = 0
            restore 0 = 3
            account 5 = 1
            count 0 = 3
            passenger 0 3 = 0
            """);
        Script.run("a slot without a flight", """
            keep 0 = 0
            serve = throws.IllegalStateException
            restore 1 = throws.NoSuchElementException
            restore 0 = 0
            reason = 1
            count 0 = 0
            good cabin a 1; = 0
            restore 0 = throws.NoSuchElementException
            """);
        Script.run("a slot is kept in place of what it had", FLIGHT + """
            keep 0 = 1
            leave 0 = 3
            keep 0 = 1
            leave 0 = 2
            restore 0 = 1
            count 3 = 3
            restore 0 = 1
            count 3 = 3
            leave 0 = 2
            undo = 0
            count 3 = 3
            """);
    }
}
