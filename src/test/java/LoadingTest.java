/** Promises 17 to 22: loadOrder, store, unload, topUp, advance, reason. */
final class LoadingTest {
    private static final String FLIGHT = "good time 100 20;lead 10;cabin f 9;cabin y 9;"
        + "meal beef menu f 2 2 50 offers a;meal soup menu y 5 3 9 offers ab;meal vg special 1 70 offers abc;"
        + "trolley y 7;trolley f 5;trolley y 8;guests f 2;guest y;guest y needs c; = 4\n";

    public static void main(String[] args) {
        loadOrder();
        store();
        unload();
        topUp();
        advance();
        reason();
        Script.end();
    }

    private static void loadOrder() {
        Script.run("loadOrder", FLIGHT + """
            store 0 1 = 1
            topUp 1 1 = 1
            loadOrder = 2
            count 9 = 3
            held 1 0 = 2
            held 0 1 = 0
            held 0 2 = 1
            loadOrder = 0
            count 9 = 4
            board 1 0 -1 = 4
            loadOrder = 1
            held 0 1 = 1
            """);
        Script.run("loadOrder goes by the numbers of the meals", """
            good cabin a 9;meal x special 1 5 offers a;meal y menu a 1 2 5;trolley a 3;trolley a 4;guests a 3;guest a needs a; = 4
            loadOrder = 4
            held 0 0 = 1
            held 0 1 = 1
            held 1 1 = 2
            """);
        Script.run("loadOrder that finds no room", FLIGHT + """
            board 0 0 -1 = 4
            loadOrder = throws.IllegalStateException
            reason = 3
            count 7 = 0
            count 9 = 1
            trolley 1 2 = 5
            unload 2 1 = throws.IllegalStateException
            reason = 4
            leave 4 = 4
            loadOrder = 4
            advance 80 = 0
            loadOrder = throws.IllegalStateException
            reason = 2
            serve = 4
            loadOrder = throws.IllegalStateException
            reason = 1
            """);
    }

    private static void store() {
        Script.run("store", FLIGHT + """
            store 1 1 = 1
            store 1 3 = 4
            held 0 1 = 2
            held 2 1 = 2
            count 9 = 2
            // vg goes where one slot is left: in the trolley with the lowest number
            store 2 2 = 2
            held 0 2 = 1
            held 1 2 = 1
            store 2 6 = 8
            held 1 2 = 5
            held 2 2 = 2
            store 2 1 = throws.IllegalStateException
            reason = 3
            meal 2 5 = 8
            count 9 = 4
            """);
        Script.run("all or nothing", FLIGHT + """
            store 0 3 = throws.IllegalStateException
            reason = 3
            held 1 0 = 0
            count 9 = 0
            store 0 2 = 2
            trolley 1 2 = 1
            store 0 1 = throws.IllegalStateException
            store 2 99 = throws.IllegalStateException
            store 2 16 = 16
            trolley 0 2 = 0
            trolley 1 2 = 0
            trolley 2 2 = 0
            """);
        Script.run("99 units", """
            good cabin a 1;meal x special 1 5;trolley a 40;trolley a 40;trolley a 19; = 0
            store 0 99 = 99
            held 2 0 = 19
            unload 0 99 = 0
            """);
        Script.run("store with wrong inputs", FLIGHT + """
            store 3 0 = throws.NoSuchElementException
            store -1 1 = throws.NoSuchElementException
            store 0 0 = throws.IllegalArgumentException
            store 0 100 = throws.IllegalArgumentException
            store 0 -1 = throws.IllegalArgumentException
            reason = 0
            advance 80 = 0
            store 2 99 = throws.IllegalStateException
            reason = 2
            store 2 1 = throws.IllegalStateException
            store 2 0 = throws.IllegalArgumentException
            serve = 0
            store 2 1 = throws.IllegalStateException
            reason = 1
            store 2 100 = throws.IllegalArgumentException
            """);
    }

    private static void unload() {
        Script.run("unload", FLIGHT + """
            store 1 4 = 4
            store 2 4 = 4
            held 0 2 = 1
            held 1 2 = 3
            unload 1 3 = 1
            held 0 1 = 1
            held 2 1 = 0
            trolley 2 2 = 8
            unload 2 2 = 2
            held 0 2 = 1
            held 1 2 = 1
            count 9 = 4
            unload 2 3 = throws.IllegalStateException
            reason = 4
            unload 0 1 = throws.IllegalStateException
            unload 2 2 = 0
            advance 90 = 0
            unload 1 1 = 0
            unload 3 0 = throws.NoSuchElementException
            unload -1 1 = throws.NoSuchElementException
            unload 1 0 = throws.IllegalArgumentException
            unload 1 100 = throws.IllegalArgumentException
            serve = 0
            unload 1 1 = throws.IllegalStateException
            reason = 1
            """);
    }

    private static void topUp() {
        Script.run("topUp", FLIGHT + """
            topUp 0 1 = 1
            topUp 0 1 = 2
            topUp 0 1 = 3
            topUp 1 99 = 4
            topUp 1 1 = 5
            topUp 2 1 = 6
            count 7 = 0
            count 9 = 6
            topUp 2 1 = throws.IllegalStateException
            reason = 5
            count 6 = 6
            advance 9 = 0
            topUp 2 1 = throws.IllegalStateException
            // beef: 2 of 3; soup: 4 of 100; vg: one slot is left in the trolleys 0, 1 and 2 has 2
            advance 1 = 97
            held 1 0 = 2
            held 0 1 = 2
            held 2 1 = 2
            held 0 2 = 1
            topUp 2 1 = 1
            topUp 3 0 = throws.NoSuchElementException
            topUp -1 1 = throws.NoSuchElementException
            topUp 2 0 = throws.IllegalArgumentException
            topUp 2 100 = throws.IllegalArgumentException
            """);
        Script.run("the lead time", FLIGHT + """
            advance 90 = 0
            topUp 2 1 = 1
            topUpAt 0 2 = 0
            advance 1 = 0
            topUp 2 1 = throws.IllegalStateException
            reason = 6
            advance 9 = 0
            count 7 = 1
            count 6 = 0
            serve = 1
            topUp 2 1 = throws.IllegalStateException
            reason = 1
            """);
        Script.run("6 top-ups on their way go before too few minutes", """
            good time 10 0;lead 6;cabin a 1;meal x special 1 5;trolley a 4; = 0
            topUp 0 1 = 1
            topUp 0 1 = 2
            topUp 0 1 = 3
            topUp 0 1 = 4
            topUp 0 1 = 5
            topUp 0 1 = 6
            advance 5 = 0
            topUp 0 1 = throws.IllegalStateException
            reason = 5
            advance 1 = 2
            topUp 0 1 = throws.IllegalStateException
            reason = 6
            """);
        Script.run("no lead time", """
            good time 3 0;lead 0;cabin a 1;meal x special 2 5;trolley a 5; = 0
            topUp 0 1 = 0
            held 0 0 = 1
            count 6 = 0
            topUp 0 9 = 0
            reason = 0
            held 0 0 = 2
            count 9 = 2
            advance 3 = 0
            unload 0 1 = 1
            topUp 0 1 = 0
            held 0 0 = 2
            """);
    }

    private static void advance() {
        Script.run("advance", FLIGHT + """
            advance 0 = throws.IllegalArgumentException
            advance 1000 = throws.IllegalArgumentException
            advance -1 = throws.IllegalArgumentException
            advance 101 = throws.IllegalStateException
            reason = 7
            count 5 = 100
            count 9 = 0
            topUp 2 20 = 1
            advance 3 = 0
            topUp 1 5 = 2
            advance 97 = 5
            held 0 2 = 7
            held 1 2 = 5
            held 2 2 = 8
            count 5 = 0
            count 6 = 0
            count 9 = 4
            advance 1 = throws.IllegalStateException
            reason = 7
            serve = 1
            advance 1 = throws.IllegalStateException
            reason = 1
            advance 0 = throws.IllegalArgumentException
            """);
        Script.run("advance 999", """
            good time 999 0; = 0
            advance 999 = 0
            count 5 = 0
            """);
    }

    private static void reason() {
        Script.run("reason is that of the latest refusal", FLIGHT + """
            reason = 0
            store 0 9 = throws.IllegalStateException
            reason = 3
            store 0 1 = 1
            keep 0 = 1
            reason = 3
            unload 0 2 = throws.IllegalStateException
            reason = 4
            undo = 0
            reason = 4
            undo = throws.IllegalStateException
            reason = 4
            store 0 0 = throws.IllegalArgumentException
            restore 0 = 1
            reason = 4
            advance 999 = throws.IllegalStateException
            reason = 7
            serve = 1
            reason = 7
            """);
    }
}
