/** Promises 1 to 12, sentence by sentence: a new object, the input, and the reports on the flight. */
final class ReportSentences {
    private static final String FLIGHT = "good time 100 20;lead 15;cabin f 4 10;cabin y 9;"
        + "meal beef menu f 2 2 50 offers a;meal rice menu f 1 1 40;meal soup menu y 5 3 9 offers ab;"
        + "meal vg special 1 70 offers abc;trolley y 7;trolley f 10;trolley y 20;"
        + "guest f needs c wish beef;guest y;guest f wish rice; = 3\n";
    private static final String NO_ARGUMENT = "IllegalArgumentException";
    private static final String NO_ELEMENT = "NoSuchElementException";

    static void run() {
        newObject();
        feed();
        load();
        loadThatThrows();
        errors();
        count();
        cabin();
        meal();
        mealBehindService();
        passenger();
        trolley();
        held();
        topUpAt();
    }

    private static void newObject() {
        Section s = Section.of("Promise 1");
        StringBuilder lines = new StringBuilder();
        for (int what = 0; what < 12; what++) {
            lines.append("count ").append(what).append(" = 0\n");
        }
        s.says("Creates a loader without a flight;", lines + """
            errorCode = 0
            errorPosition = -1
            reason = 0
            cabin 0 0 = throws.NoSuchElementException
            meal 0 0 = throws.NoSuchElementException
            passenger 0 0 = throws.NoSuchElementException
            trolley 0 0 = throws.NoSuchElementException
            held 0 0 = throws.NoSuchElementException
            topUpAt 0 0 = throws.IndexOutOfBoundsException
            mealFor 0 = throws.NoSuchElementException
            writeTrolley 0 = throws.NoSuchElementException
            outputByte 0 = throws.IndexOutOfBoundsException
            undo = throws.IllegalStateException
            restore 0 = throws.NoSuchElementException
            restore 1 = throws.NoSuchElementException
            load 1 = throws.IllegalArgumentException
            board 0 0 -1 = throws.NoSuchElementException
            change 0 0 = throws.NoSuchElementException
            leave 0 = throws.NoSuchElementException
            setNeeds 0 0 = throws.NoSuchElementException
            store 0 1 = throws.NoSuchElementException
            unload 0 1 = throws.NoSuchElementException
            topUp 0 1 = throws.NoSuchElementException
            loadOrder = refused 1
            serve = refused 1
            advance 1 = refused 1
            """);
        s.says("all accounts are 0.", """
            account 0 = 0
            account 1 = 0
            account 2 = 0
            account 3 = 0
            account 4 = 0
            account 5 = 0
            wasteShare = 0.0
            wasteBits = 0
            costBits = 0
            """);
    }

    private static void feed() {
        Section s = Section.of("Promise 2");
        s.says("Appends 20 bytes to the input buffer: the four bytes of each parameter in order, the most significant byte "
            + "first.", """
            // "time" " 321" " 45;" "lead" " 67;"
            feed 1953066341 540226097 540292411 1818583396 540423995 = 20
            // "    " "cabi" "n ab" "cdef" " 37;"
            feed 538976288 1667326569 1847615842 1667523942 540227387 = 40
            load 40 = 0
            count 5 = 321
            count 10 = 45
            count 11 = 67
            cabin 0 0 = 37
            // the bytes 32, then 255 four times: the first is at 4, and at 16 in the last parameter
            feed 538976288 -1 538976288 538976288 538976288 = 20
            load 20 = throws.IllegalStateException
            errorPosition = 4
            feed 538976288 538976288 538976288 538976288 538976383 = 20
            load 20 = throws.IllegalStateException
            errorPosition = 19
            feed -2147483648 538976288 538976288 538976288 538976288 = 20
            load 20 = throws.IllegalStateException
            errorPosition = 0
            feed 2147483647 538976288 538976288 538976288 538976288 = 20
            load 20 = throws.IllegalStateException
            errorPosition = 0
            """);
        s.says("Returns the new length of the buffer.", """
            feed 0 0 0 0 0 = 20
            feed 0 0 0 0 0 = 40
            feed 0 0 0 0 0 = 60
            load 1 = throws.IllegalStateException
            feed 0 0 0 0 0 = 20
            """);
        StringBuilder lines = new StringBuilder();
        for (int length = 20; length <= 900; length += 20) {
            lines.append("feed 538976288 538976288 538976288 538976288 538976288 = ").append(length).append('\n');
        }
        s.says("Throws IllegalStateException if the length would exceed 900; nothing is appended then", lines + """
            feed 0 0 0 0 0 = throws.IllegalStateException
            feed -1 -1 -1 -1 -1 = throws.IllegalStateException
            load 901 = throws.IllegalArgumentException
            load 900 = 0
            feed 0 0 0 0 0 = 20
            """);
    }

    private static void load() {
        Section s = Section.of("Promise 3");
        s.says("Parses the first length bytes of the buffer as a flight.", """
            feeds lead 5;lead 6;      $ = 40
            load 14 = 0
            count 11 = 6
            feeds lead 5;lead 6; = 20
            load 13 = throws.IllegalStateException
            errorCode = 1
            errorPosition = 13
            feeds lead 5;lead 6; = 20
            load 7 = 0
            count 11 = 5
            """);
        s.says("Without an error, it replaces the present one, which is given up without a service; nothing can be undone, "
            + "both slots are empty, reason() is 0; the accounts and the output buffer stay.", FLIGHT + """
            store 0 3 = 3
            serve = 1
            account 0 = 3
            account 5 = 1
            undo = 1
            serve = 1
            serve = refused 1
            keep 0 = 3
            keep 1 = 3
            writes 1 = 3xbeef
            good time 50 40;cabin x 7 3;meal n menu x 4 1 9;trolley x 20;guest x; = 1
            reason = 0
            count 9 = 0
            undo = throws.IllegalStateException
            restore 0 = throws.NoSuchElementException
            restore 1 = throws.NoSuchElementException
            account 0 = 3
            account 5 = 1
            outputByte 0 = 51
            outputByte 6 = 10
            outputByte 7 = throws.IndexOutOfBoundsException
            count 0 = 1
            count 1 = 1
            count 2 = 1
            count 3 = 1
            count 4 = 1
            count 5 = 50
            count 6 = 0
            count 7 = 0
            cabin 0 0 = 7
            store 0 3 = 3
            // given up without a service
            good = 0
            account 0 = 3
            account 5 = 1
            count 1 = 0
            count 7 = 0
            """);
        s.says("Without an error, it replaces the present one,", """
            // nothing of the flights before, nor of the one before them, is left
            good cabin a 5 50;meal m menu a 7 2 30 offers ab;trolley a 9;guest a needs a wish m; = 1
            store 0 3 = 3
            good cabin a 5 50;meal m menu a 7 2 30 offers ab;trolley a 9;guest a needs a wish m; = 1
            store 0 3 = 3
            good cabin a 6;meal m special 1 30;trolley a 8;guest a; = 1
            cabin 0 1 = 0
            meal 0 0 = -1
            meal 0 1 = 0
            meal 0 4 = 0
            passenger 0 1 = 0
            passenger 0 2 = -1
            held 0 0 = 0
            trolley 0 2 = 8
            good cabin a 6;meal m special 1 30;trolley a 8;guest a; = 1
            meal 0 1 = 0
            meal 0 4 = 0
            """);
        s.says("The buffer is emptied unless an IllegalArgumentException is thrown.", """
            feeds lead 5; = 20
            load 7 = 0
            load 1 = throws.IllegalArgumentException
            feeds lead 5; = 20
            load 8 = throws.IllegalStateException
            load 1 = throws.IllegalArgumentException
            feeds lead 6; = 20
            load 21 = throws.IllegalArgumentException
            feeds lead 7; = 40
            load 0 = 0
            load 1 = throws.IllegalArgumentException
            """);
        s.says("- `length`: number of bytes, 0 to the length of the buffer", """
            load 0 = 0
            count 0 = 1
            feeds lead 5;lead 6;time 9;$ = 40
            load 40 = throws.IllegalStateException
            errorPosition = 20
            feeds lead 5;lead 6;time 9; = 40
            load 0 = 0
            count 11 = 10
            load 0 = 0
            """);
        s.says("Returns the number of passengers.", """
            good cabin a 40; = 0
            good cabin a 40;guest a; = 1
            good cabin a 40;guests a 40; = 40
            """);
    }

    private static void loadThatThrows() {
        Section s = Section.of("Promise 3");
        s.says("Throws IllegalArgumentException if length is out of range; errorCode() and errorPosition() do not change "
            + "then", """
            error 2 lead ^100;
            feeds lead 5; = 20
            """ + Script.beyond("load #", 0, 20, NO_ARGUMENT) + """
            errorCode = 2
            errorPosition = 5
            load 7 = 0
            """ + Script.beyond("load #", 0, 0, NO_ARGUMENT) + """
            errorCode = 0
            errorPosition = -1
            """);
        s.says("Throws IllegalStateException if the text has an error; then only the buffer, errorCode() and "
            + "errorPosition() change", FLIGHT + """
            store 0 2 = 2
            topUp 1 2 = 1
            store 0 9 = refused 3
            keep 0 = 1
            writes 1 = 2xbeef
            error 1 cabin b 3;meal v menu b 1 1 1;trolley b 3;guests b 2;time 5 5;lead 5^
            error 3 cabin b 1;cabin ^b 2;
            reason = 3
            count 1 = 2
            count 7 = 2
            count 9 = 2
            serve = 1
            error 5 cabin a 1;guests a ^2;
            """);
    }

    private static void errors() {
        Section s = Section.of("Promise 4");
        s.says("Returns the code of the error found by the latest call of load() that parsed a text; 0 if it found none or "
            + "there was no such call.", """
            errorCode = 0
            load 1 = throws.IllegalArgumentException
            errorCode = 0
            error 1 ^$
            errorCode = 1
            error 2 lead ^100;
            load 21 = throws.IllegalArgumentException
            errorCode = 2
            error 3 trolley ^a 1;
            errorCode = 3
            error 4 cabin a 40;guests a 40;^guest a;
            errorCode = 4
            error 5 cabin a 1;guests a ^2;
            errorCode = 5
            good lead 1; = 0
            errorCode = 0
            """);
        s = Section.of("Promise 5");
        s.says("Returns the position of that error; -1 if there is none.", """
            errorPosition = -1
            load 1 = throws.IllegalArgumentException
            errorPosition = -1
            error 1 ^$
            errorPosition = 0
            error 2 lead ^100;
            load 21 = throws.IllegalArgumentException
            errorPosition = 5
            error 1 lead 1^
            errorPosition = 6
            load 0 = 0
            errorPosition = -1
            """);
    }

    private static void count() {
        Section s = Section.of("Promise 6");
        s.says("- `what`: 0 the phase, 1 the number of cabins, 2 meals, 3 passengers, 4 trolleys, 5 minutes left, 6 top-ups "
            + "on their way, 7 units that are loaded (behind the service: that were), 8 units of the order, 9 acts that can "
            + "be undone, 10 the closing time, 11 the lead time Returns that number;", FLIGHT + """
            count 0 = 1
            count 1 = 2
            count 2 = 4
            count 3 = 3
            count 4 = 3
            count 5 = 100
            count 6 = 0
            count 7 = 0
            count 8 = 4
            count 9 = 0
            count 10 = 20
            count 11 = 15
            store 0 2 = 2
            store 2 1 = 1
            topUp 0 4 = 1
            topUp 0 4 = 2
            count 6 = 2
            count 7 = 3
            count 9 = 4
            advance 80 = 5
            count 0 = 2
            count 5 = 20
            count 6 = 0
            count 7 = 6
            topUp 0 1 = 1
            serve = 2
            count 0 = 3
            count 1 = 2
            count 3 = 3
            count 5 = 0
            count 6 = 0
            count 7 = 6
            count 8 = 4
            count 9 = 7
            count 10 = 20
            count 11 = 15
            undo = 6
            count 9 = 6
            """);
        StringBuilder none = new StringBuilder();
        for (int what = 0; what < 12; what++) {
            none.append("count ").append(what).append(" = 0\n");
        }
        s.says("0 for 1 to 8, 10 and 11 in the phase 0.", none + "error 2 cabin a 5;lead 5;time 5 5;lead ^100;\n" + none
            + "keep 0 = 0\nrestore 0 = 0\n" + none);
        s.says("Throws IllegalArgumentException if what is out of range", Script.beyond("count #", 0, 11, NO_ARGUMENT)
            + FLIGHT + Script.beyond("count #", 0, 11, NO_ARGUMENT));
    }

    private static void cabin() {
        Section s = Section.of("Promise 7");
        s.says("Reports on a cabin. - `cabin`: number of a cabin - `what`: 0 its seats, 1 its spare percentage, 2 its "
            + "passengers, 3 its special passengers, 4 its trolleys, 5 the slots of its trolleys that are free, 6 the meals "
            + "of its menu, as a bit set, 7 the slots that the units of the order of its menu take Returns that number.",
            FLIGHT + """
            cabin 0 0 = 4
            cabin 0 1 = 10
            cabin 0 2 = 2
            cabin 0 3 = 1
            cabin 0 4 = 1
            cabin 0 5 = 10
            cabin 0 6 = 3
            cabin 0 7 = 3
            cabin 1 0 = 9
            cabin 1 1 = 0
            cabin 1 2 = 1
            cabin 1 3 = 0
            cabin 1 4 = 2
            cabin 1 5 = 27
            cabin 1 6 = 4
            cabin 1 7 = 3
            store 2 8 = 8
            cabin 1 5 = 3
            store 3 1 = 1
            cabin 1 5 = 2
            cabin 0 5 = 10
            store 0 5 = 5
            cabin 0 5 = 0
            store 3 2 = 3
            cabin 1 5 = 0
            serve = 3
            cabin 0 5 = 0
            cabin 1 5 = 0
            cabin 0 7 = 3
            """);
        s.says("Throws NoSuchElementException if there is no such cabin", "cabin 0 0 = throws.NoSuchElementException\n"
            + FLIGHT + Script.beyond("cabin # 0", 0, 1, NO_ELEMENT) + Script.beyond("cabin # 8", 0, 1, NO_ELEMENT));
        s.says("Throws IllegalArgumentException if what is out of range", FLIGHT
            + Script.beyond("cabin 0 #", 0, 7, NO_ARGUMENT) + Script.beyond("cabin 1 #", 0, 7, NO_ARGUMENT));
    }

    private static void meal() {
        Section s = Section.of("Promise 8");
        s.says("Reports on a meal. - `meal`: number of a meal - `what`: 0 the cabin on whose menu it is (NONE for a special "
            + "meal), 1 its share (0 for a special meal), 2 its size, 3 its cost, 4 the diets that it offers, as a bit set,",
            FLIGHT + """
            meal 0 0 = 0
            meal 0 1 = 2
            meal 0 2 = 2
            meal 0 3 = 50
            meal 0 4 = 1
            meal 1 4 = 0
            meal 2 0 = 1
            meal 2 1 = 5
            meal 2 2 = 3
            meal 2 3 = 9
            meal 2 4 = 3
            meal 3 0 = -1
            meal 3 1 = 0
            meal 3 2 = 1
            meal 3 3 = 70
            meal 3 4 = 7
            """);
        s.says("5 the units that are loaded (behind the service: that were), 6 its units in the order, 7 its units that are "
            + "on their way,", FLIGHT + """
            meal 3 5 = 0
            meal 0 6 = 1
            meal 1 6 = 1
            meal 2 6 = 1
            meal 3 6 = 1
            store 3 8 = 8
            meal 3 5 = 8
            topUp 3 2 = 1
            topUp 0 1 = 2
            topUp 3 3 = 3
            meal 3 7 = 5
            meal 0 7 = 1
            meal 1 7 = 0
            advance 15 = 0
            meal 3 7 = 0
            meal 3 5 = 13
            topUp 3 2 = 1
            serve = 2
            meal 3 5 = 13
            meal 3 6 = 1
            meal 3 7 = 0
            """);
        s.says("9 how many units are missing: the order minus what is loaded and on its way, at least 0", FLIGHT + """
            board 1 0 -1 = 3
            board 1 0 -1 = 4
            board 1 0 -1 = 5
            meal 2 6 = 4
            meal 2 9 = 4
            store 2 1 = 1
            meal 2 9 = 3
            topUp 2 2 = 1
            meal 2 9 = 1
            topUp 2 1 = 2
            meal 2 9 = 0
            topUp 2 1 = 3
            meal 2 9 = 0
            unload 2 1 = 0
            meal 2 9 = 0
            serve = 0
            // what was on its way is lost
            meal 2 9 = 4
            """);
    }

    private static void mealBehindService() {
        Section s = Section.of("Promise 8");
        s.says("8 its units that were eaten (0 ahead of the service),", FLIGHT + """
            store 0 3 = 3
            store 1 2 = 2
            meal 0 8 = 0
            meal 1 8 = 0
            serve = 1
            meal 0 8 = 0
            meal 1 8 = 1
            undo = 2
            meal 1 8 = 0
            """);
        s.says("Returns that number.", FLIGHT + "meal 3 3 = 70\n");
        s.says("Throws NoSuchElementException if there is no such meal", "meal 0 0 = throws.NoSuchElementException\n"
            + FLIGHT + Script.beyond("meal # 0", 0, 3, NO_ELEMENT) + Script.beyond("meal # 10", 0, 3, NO_ELEMENT));
        s.says("Throws IllegalArgumentException if what is out of range", FLIGHT
            + Script.beyond("meal 0 #", 0, 9, NO_ARGUMENT) + Script.beyond("meal 3 #", 0, 9, NO_ARGUMENT));
    }

    private static void passenger() {
        Section s = Section.of("Promise 9");
        s.says("Reports on a passenger. - `passenger`: number of a passenger - `what`: 0 the cabin, 1 the needs, as a bit "
            + "set, 2 the wish (NONE), 3 the meal that was got (NONE if there was none, and ahead of the service), 4 the "
            + "meals that suit, as a bit set, 5 the cheapest meal that suits, of several the one with the lowest number "
            + "(NONE) Returns that number.", FLIGHT + """
            passenger 0 0 = 0
            passenger 0 1 = 4
            passenger 0 2 = 0
            passenger 0 3 = -1
            passenger 0 4 = 8
            passenger 0 5 = 3
            passenger 1 0 = 1
            passenger 1 1 = 0
            passenger 1 2 = -1
            passenger 1 4 = 12
            passenger 1 5 = 2
            passenger 2 2 = 1
            passenger 2 4 = 11
            passenger 2 5 = 1
            setNeeds 1 128 = 0
            passenger 1 4 = 0
            passenger 1 5 = -1
            store 3 1 = 1
            store 0 1 = 1
            mealFor 0 = 3
            passenger 0 3 = -1
            serve = 2
            passenger 0 3 = 3
            passenger 1 3 = -1
            passenger 2 3 = 0
            good cabin a 9;meal x special 1 8 offers b;meal y special 1 7 offers ab;meal z menu a 1 1 7 offers ab;guest a needs b;guest a; = 2
            passenger 0 5 = 1
            passenger 1 5 = 1
            """);
        s.says("Throws NoSuchElementException if there is no such passenger",
            "passenger 0 0 = throws.NoSuchElementException\n" + FLIGHT + Script.beyond("passenger # 0", 0, 2, NO_ELEMENT)
            + Script.beyond("passenger # 6", 0, 2, NO_ELEMENT) + "leave 0 = 2\n"
            + Script.beyond("passenger # 0", 0, 1, NO_ELEMENT));
        s.says("Throws IllegalArgumentException if what is out of range", FLIGHT
            + Script.beyond("passenger 0 #", 0, 5, NO_ARGUMENT) + Script.beyond("passenger 2 #", 0, 5, NO_ARGUMENT));
    }

    private static void trolley() {
        Section s = Section.of("Promise 10");
        s.says("Reports on a trolley. - `trolley`: number of a trolley - `what`: 0 its cabin, 1 its slots, 2 its free slots, "
            + "3 its units Returns that number (2 and 3 as they were ahead of the service, behind it).", FLIGHT + """
            trolley 0 0 = 1
            trolley 0 1 = 7
            trolley 1 0 = 0
            trolley 1 1 = 10
            trolley 2 0 = 1
            trolley 2 1 = 20
            trolley 2 2 = 20
            trolley 2 3 = 0
            store 2 3 = 3
            store 3 2 = 2
            // 2 soups and a vg, a vg, a soup
            trolley 0 2 = 0
            trolley 0 3 = 3
            trolley 1 2 = 9
            trolley 1 3 = 1
            trolley 2 2 = 17
            trolley 2 3 = 1
            serve = 2
            trolley 0 1 = 7
            trolley 0 2 = 0
            trolley 0 3 = 3
            trolley 1 2 = 9
            trolley 1 3 = 1
            """);
        s.says("Throws NoSuchElementException if there is no such trolley", "trolley 0 0 = throws.NoSuchElementException\n"
            + FLIGHT + Script.beyond("trolley # 0", 0, 2, NO_ELEMENT) + Script.beyond("trolley # 4", 0, 2, NO_ELEMENT));
        s.says("Throws IllegalArgumentException if what is out of range", FLIGHT
            + Script.beyond("trolley 0 #", 0, 3, NO_ARGUMENT) + Script.beyond("trolley 2 #", 0, 3, NO_ARGUMENT));
    }

    private static void held() {
        Section s = Section.of("Promise 11");
        s.says("- `trolley`: number of a trolley - `meal`: number of a meal Returns the units of this meal in the trolley "
            + "(behind the service: as they were ahead of it).", FLIGHT + """
            held 0 0 = 0
            held 2 3 = 0
            store 2 3 = 3
            store 3 2 = 2
            held 0 2 = 2
            held 0 3 = 1
            held 1 2 = 0
            held 1 3 = 1
            held 2 2 = 1
            held 2 3 = 0
            serve = 2
            held 0 2 = 2
            held 0 3 = 1
            held 1 3 = 1
            held 2 2 = 1
            """);
        s.says("Throws NoSuchElementException if there is no such trolley or meal",
            "held 0 0 = throws.NoSuchElementException\n" + FLIGHT + Script.beyond("held # 0", 0, 2, NO_ELEMENT)
            + Script.beyond("held 0 #", 0, 3, NO_ELEMENT) + Script.beyond("held # #", 0, 3, NO_ELEMENT)
            + "good meal x special 1 1; = 0\nheld 0 0 = throws.NoSuchElementException\n"
            + "good cabin a 1;trolley a 1; = 0\nheld 0 0 = throws.NoSuchElementException\n");
    }

    private static void topUpAt() {
        Section s = Section.of("Promise 12");
        s.says("Reports on a top-up that is on its way. - `index`: 0 for the one that arrives next, of several at the same "
            + "minute that which was asked for first - `what`: 0 its meal, 1 its units, 2 how many minutes are left (until "
            + "departure) when it arrives Returns that number.", FLIGHT + """
            topUp 2 3 = 1
            advance 5 = 0
            topUp 1 99 = 2
            topUp 0 1 = 3
            topUpAt 0 0 = 2
            topUpAt 0 1 = 3
            topUpAt 0 2 = 85
            topUpAt 1 0 = 1
            topUpAt 1 1 = 99
            topUpAt 1 2 = 80
            topUpAt 2 0 = 0
            topUpAt 2 1 = 1
            topUpAt 2 2 = 80
            advance 10 = 0
            topUpAt 0 0 = 1
            topUpAt 1 0 = 0
            topUpAt 1 2 = 80
            good time 9 0;lead 9;cabin a 1;meal x special 1 1; = 0
            topUp 0 1 = 1
            topUpAt 0 2 = 0
            """);
        s.says("Throws IndexOutOfBoundsException if there is no such top-up",
            "topUpAt 0 0 = throws.IndexOutOfBoundsException\n" + FLIGHT
            + "topUpAt 0 0 = throws.IndexOutOfBoundsException\ntopUp 0 1 = 1\ntopUp 0 1 = 2\n"
            + Script.beyond("topUpAt # 0", 0, 1, "IndexOutOfBoundsException")
            + Script.beyond("topUpAt # 3", 0, 1, "IndexOutOfBoundsException") + "advance 15 = 0\n"
            + Script.beyond("topUpAt # 0", 0, -1, "IndexOutOfBoundsException") + "topUp 0 1 = 1\nserve = 1\n"
            + "topUpAt 0 0 = throws.IndexOutOfBoundsException\n");
        s.says("Throws IllegalArgumentException if what is out of range", FLIGHT + "topUp 0 1 = 1\n"
            + Script.beyond("topUpAt 0 #", 0, 2, NO_ARGUMENT));
    }
}
