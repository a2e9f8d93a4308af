/** Promises 2 to 5: feed, load, errorCode, errorPosition. */
final class InputTest {
    private static final String CALLS_OF_900_BYTES = "feed 538976288 538976288 538976288 538976288 538976288 = ";

    public static void main(String[] args) {
        fullBuffer();
        Script.run("the bytes of feed, the most significant first", """
            // "lead 7;  ", then spaces: 6c656164 20373b20 20202020
            feed 1818583396 540490528 538976288 538976288 538976288 = 20
            load 20 = 0
            count 11 = 7
            """);
        Script.run("all five parameters count, in order", """
            // "time" " 321" " 45;" "lead" " 67;"
            feed 1953066341 540226097 540292411 1818583396 540423995 = 20
            load 20 = 0
            count 5 = 321
            count 10 = 45
            count 11 = 67
            """);
        Script.run("bytes of 128 and more are no letters", """
            feed -1 -1 -1 -1 -1 = 20
            load 20 = throws.IllegalStateException
            errorCode = 1
            errorPosition = 0
            feed 1818583396 540490751 538976288 538976288 538976288 = 20
            load 20 = throws.IllegalStateException
            errorCode = 1
            errorPosition = 7
            """);
        Script.run("length out of range keeps the buffer and the error", """
            error 2 lead ^100;
            feeds lead 5; = 20
            load 21 = throws.IllegalArgumentException
            load -1 = throws.IllegalArgumentException
            load 2147483647 = throws.IllegalArgumentException
            load -2147483648 = throws.IllegalArgumentException
            errorCode = 2
            errorPosition = 5
            count 0 = 0
            feeds lead 9; = 40
            load 7 = 0
            errorCode = 0
            errorPosition = -1
            count 11 = 5
            load 1 = throws.IllegalArgumentException
            load 0 = 0
            """);
        Script.run("only the first bytes are parsed, and an error empties the buffer", """
            feeds lead 5;lead 6; = 20
            load 14 = 0
            count 11 = 6
            feeds lead 5;lead 6; = 20
            load 13 = throws.IllegalStateException
            errorCode = 1
            errorPosition = 13
            load 1 = throws.IllegalArgumentException
            errorCode = 1
            errorPosition = 13
            feeds lead 5;lead 6; = 20
            load 7 = 0
            count 11 = 5
            """);
        keepsAndReplaces();
        Script.end();
    }

    private static void fullBuffer() {
        StringBuilder lines = new StringBuilder();
        for (int length = 20; length <= 900; length += 20) {
            lines.append(CALLS_OF_900_BYTES).append(length).append('\n');
        }
        String full = CALLS_OF_900_BYTES + "throws.IllegalStateException\n";
        Script.run("a full buffer", lines + full + full + "load 900 = 0\ncount 0 = 1\n" + CALLS_OF_900_BYTES + "20\n");
        Script.run("a full buffer is not longer", lines + full + "load 901 = throws.IllegalArgumentException\n");
    }

    private static void keepsAndReplaces() {
        Script.run("an error changes nothing but the buffer and the error", """
            good cabin a 5;meal m menu a 1 2 30;trolley a 9;guests a 2; = 2
            store 0 5 = throws.IllegalStateException
            store 0 3 = 3
            keep 1 = 1
            writes 0 = 3xm
            error 3 cabin b 1;cabin ^b 2;
            reason = 3
            count 1 = 1
            count 2 = 1
            count 3 = 2
            count 4 = 1
            count 7 = 3
            count 9 = 1
            outputByte 0 = 51
            cabin 0 0 = 5
            meal 0 3 = 30
            undo = 0
            restore 1 = 1
            count 7 = 3
            """);
        Script.run("a text without an error replaces the flight", """
            good cabin a 5;meal m menu a 1 2 30;trolley a 9;guests a 2; = 2
            store 0 3 = 3
            topUp 0 1 = 1
            serve = 2
            undo = 2
            serve = 2
            keep 0 = 3
            keep 1 = 3
            writes 0 = 3xm
            loadOrder = throws.IllegalStateException
            reason = 1
            error 5 cabin a 1;guests a ^2;
            good cabin x 7 3;meal n menu x 4 1 9;trolley x 20;guest x;time 50 40; = 1
            errorCode = 0
            errorPosition = -1
            reason = 0
            undo = throws.IllegalStateException
            restore 0 = throws.NoSuchElementException
            restore 1 = throws.NoSuchElementException
            account 0 = 3
            account 5 = 1
            outputByte 2 = 109
            outputByte 3 = 10
            outputByte 4 = throws.IndexOutOfBoundsException
            count 0 = 1
            count 5 = 50
            count 6 = 0
            count 7 = 0
            count 9 = 0
            trolley 0 2 = 20
            cabin 0 0 = 7
            // a flight that is given up is not served
            good = 0
            account 5 = 1
            account 0 = 3
            count 1 = 0
            count 5 = 120
            count 10 = 30
            count 11 = 10
            """);
        Script.run("nothing is on its way at the beginning", """
            good cabin a 5;meal m special 1 30;trolley a 9; = 0
            topUp 0 2 = 1
            store 0 1 = 1
            good cabin a 5;meal m special 1 30;trolley a 9; = 0
            count 6 = 0
            meal 0 7 = 0
            """);
        Script.run("old passengers, units and spare percentages are gone in a third flight", """
            good cabin a 5 50;meal m menu a 1 2 30 offers ab;trolley a 9;guest a needs a wish m; = 1
            store 0 3 = 3
            good cabin a 5 50;meal m menu a 1 2 30 offers ab;trolley a 9;guest a needs a wish m; = 1
            store 0 3 = 3
            good cabin a 6;meal m special 1 30;trolley a 8;guest a; = 1
            cabin 0 1 = 0
            meal 0 0 = -1
            meal 0 1 = 0
            meal 0 4 = 0
            passenger 0 1 = 0
            passenger 0 2 = -1
            held 0 0 = 0
            trolley 0 2 = 8
            """);
    }
}
