/** Promises 13 to 22, sentence by sentence: the acts ahead of the service, and reason(). */
final class ActSentences {
    // 99 units of vg fit in, and not one more; of beef 22, of soup 16.
    private static final String FLIGHT = "good time 100 20;lead 10;cabin f 3;cabin y 2;"
        + "meal beef menu f 2 2 50 offers a;meal soup menu y 5 3 9 offers ab;meal vg special 1 70 offers abc;"
        + "trolley y 40;trolley f 40;trolley f 4;trolley y 15;"
        + "guest f needs c wish beef;guest y;guest f wish beef; = 3\n";
    private static final String NO_ARGUMENT = "IllegalArgumentException";
    private static final String NO_ELEMENT = "NoSuchElementException";

    static void run() {
        board();
        boardThatThrows();
        change();
        changeThatThrows();
        leave();
        setNeeds();
        loadOrder();
        loadOrderThatThrows();
        store();
        storeThatThrows();
        unload();
        unloadThatThrows();
        topUp();
        topUpThatThrows();
        advance();
        reason();
    }

    private static void board() {
        Section s = Section.of("Promise 13");
        s.says("Adds a passenger, behind all others.", FLIGHT + """
            board 1 3 1 = undone 3
            passenger 0 1 = 4
            passenger 1 0 = 1
            passenger 2 2 = 0
            passenger 3 0 = 1
            passenger 3 1 = 3
            passenger 3 2 = 1
            count 3 = 4
            count 9 = 1
            cabin 1 2 = 2
            """);
        s.says("Possible in the phases 1 and 2.", FLIGHT + """
            advance 79 = 0
            count 0 = 1
            board 0 0 -1 = 3
            advance 1 = 0
            count 0 = 2
            board 1 0 -1 = undone 4
            advance 20 = 0
            leave 0 = 4
            board 0 0 -1 = 4
            serve = 0
            leave 0 = refused 1
            board 0 0 -1 = refused 1
            """);
        s.says("- `cabin`: number of a cabin - `needs`: 0 to 255 - `wish`: number of a meal on the menu of the cabin, or NONE",
            FLIGHT + """
            board 0 0 0 = 3
            board 1 255 1 = 4
            passenger 3 0 = 0
            passenger 3 1 = 0
            passenger 3 2 = 0
            passenger 4 0 = 1
            passenger 4 1 = 255
            passenger 4 2 = 1
            leave 4 = 4
            board 1 128 -1 = 4
            passenger 4 2 = -1
            """);
        s.says("Returns the number of the passenger.", """
            good cabin a 40; = 0
            board 0 0 -1 = 0
            board 0 0 -1 = 1
            leave 0 = 1
            board 0 0 -1 = 1
            good cabin a 40;guests a 39; = 39
            board 0 0 -1 = 39
            """);
    }

    private static void boardThatThrows() {
        Section s = Section.of("Promise 13");
        s.says("Throws NoSuchElementException if there is no such cabin, or the wish is not NONE and not the number of a meal",
            "board 0 0 -1 = throws.NoSuchElementException\n" + FLIGHT + Script.beyond("board # 0 -1", 0, 1, NO_ELEMENT)
            + Script.beyond("board # 256 3", 0, 1, NO_ELEMENT) + Script.beyond("board 0 0 #", -1, 2, NO_ELEMENT)
            + Script.beyond("board 0 256 #", -1, 2, NO_ELEMENT));
        s.says("Throws IllegalArgumentException if needs is out of range, or the wish is not on the menu of the cabin",
            FLIGHT + Script.beyond("board 0 # -1", 0, 255, NO_ARGUMENT) + """
            board 0 0 1 = throws.IllegalArgumentException
            board 1 0 0 = throws.IllegalArgumentException
            // a special meal is on no menu
            board 0 0 2 = throws.IllegalArgumentException
            board 0 0 -1 = 3
            // where it would be refused
            board 0 256 -1 = throws.IllegalArgumentException
            board 0 0 1 = throws.IllegalArgumentException
            reason = 0
            """);
        s.says("Throws IllegalStateException if it is refused (reasons 1, 8, 9); only reason() changes then", FLIGHT + """
            board 1 0 -1 = 3
            board 1 0 -1 = refused 9
            board 1 255 1 = refused 9
            board 0 0 -1 = 4
            board 0 0 -1 = refused 9
            serve = 0
            board 0 0 -1 = refused 1
            good cabin a 21;cabin b 20;guests a 20;guests b 20; = 40
            board 0 0 -1 = refused 8
            board 1 0 -1 = refused 8
            leave 0 = 39
            board 1 0 -1 = refused 9
            board 0 0 -1 = 39
            serve = 0
            board 0 0 -1 = refused 1
            """);
    }

    private static void change() {
        Section s = Section.of("Promise 14");
        s.says("Lets a passenger change to another cabin, in the phases 1 and 2.", FLIGHT + """
            change 0 1 = undone 0
            passenger 0 0 = 1
            passenger 0 1 = 4
            passenger 1 0 = 1
            passenger 2 0 = 0
            count 3 = 3
            count 9 = 1
            advance 80 = 0
            count 0 = 2
            change 1 0 = undone 1
            advance 20 = 0
            change 2 1 = 0
            serve = 0
            change 0 0 = refused 1
            """);
        s.says("A wish is dropped.", FLIGHT + """
            passenger 0 2 = 0
            change 0 1 = 0
            passenger 0 2 = -1
            passenger 2 2 = 0
            change 0 0 = 1
            passenger 0 2 = -1
            change 1 0 = 1
            passenger 1 2 = -1
            """);
        s.says("- `passenger`: number of a passenger - `cabin`: number of a cabin Returns the number of the previous cabin.",
            FLIGHT + """
            change 2 1 = 0
            change 1 0 = 1
            change 2 0 = 1
            change 0 1 = 0
            passenger 0 0 = 1
            passenger 1 0 = 0
            passenger 2 0 = 0
            """);
    }

    private static void changeThatThrows() {
        Section s = Section.of("Promise 14");
        s.says("Throws NoSuchElementException if there is no such passenger or cabin",
            "change 0 0 = throws.NoSuchElementException\n" + FLIGHT + Script.beyond("change # 0", 0, 2, NO_ELEMENT)
            + Script.beyond("change 0 #", 0, 1, NO_ELEMENT) + Script.beyond("change # #", 0, 2, NO_ELEMENT));
        s.says("Throws IllegalArgumentException if the passenger is in this cabin already", FLIGHT + """
            change 0 0 = throws.IllegalArgumentException
            change 1 1 = throws.IllegalArgumentException
            board 1 0 -1 = 3
            // the cabin is full, too
            change 1 1 = throws.IllegalArgumentException
            serve = 0
            change 1 1 = throws.IllegalArgumentException
            reason = 0
            """);
        s.says("Throws IllegalStateException if it is refused (reasons 1, 9); only reason() changes then", FLIGHT + """
            board 1 0 -1 = 3
            change 0 1 = refused 9
            passenger 0 2 = 0
            leave 3 = 3
            change 0 1 = 0
            change 2 1 = refused 9
            serve = 0
            change 2 1 = refused 1
            change 0 0 = refused 1
            """);
    }

    private static void leave() {
        Section s = Section.of("Promise 15");
        s.says("Removes a passenger, in the phases 1 and 2; the numbers of those behind decrease by 1.", FLIGHT + """
            leave 0 = undone 2
            passenger 0 0 = 1
            passenger 0 1 = 0
            passenger 0 2 = -1
            passenger 1 0 = 0
            passenger 1 2 = 0
            count 9 = 1
            advance 80 = 0
            count 0 = 2
            leave 1 = undone 1
            passenger 0 0 = 1
            advance 20 = 0
            leave 0 = 0
            cabin 0 2 = 0
            cabin 1 2 = 0
            """);
        s.says("- `passenger`: number of a passenger Returns the number of passengers then.", FLIGHT + """
            leave 2 = 2
            passenger 0 1 = 4
            passenger 1 0 = 1
            leave 0 = 1
            leave 0 = 0
            good cabin a 40;guests a 40; = 40
            leave 39 = 39
            leave 0 = 38
            """);
        s.says("Throws NoSuchElementException if there is no such passenger", "leave 0 = throws.NoSuchElementException\n"
            + FLIGHT + Script.beyond("leave #", 0, 2, NO_ELEMENT) + "leave 2 = 2\nleave 1 = 1\nleave 0 = 0\n"
            + Script.beyond("leave #", 0, -1, NO_ELEMENT) + FLIGHT + "serve = 0\n"
            + Script.beyond("leave #", 0, 2, NO_ELEMENT));
        s.says("Throws IllegalStateException if it is refused (reason 1); only reason() changes then", FLIGHT + """
            serve = 0
            leave 0 = refused 1
            leave 2 = refused 1
            undo = 0
            leave 2 = 2
            """);
    }

    private static void setNeeds() {
        Section s = Section.of("Promise 16");
        s.says("Sets the needs of a passenger, in the phases 1 and 2.", FLIGHT + """
            setNeeds 1 5 = undone 0
            passenger 0 1 = 4
            passenger 1 1 = 5
            passenger 2 1 = 0
            // the same again is an act, too
            setNeeds 1 5 = undone 5
            count 9 = 2
            advance 80 = 0
            count 0 = 2
            setNeeds 2 6 = undone 0
            advance 20 = 0
            setNeeds 2 0 = 6
            """);
        s.says("A wish stays.", FLIGHT + """
            setNeeds 0 0 = 4
            passenger 0 2 = 0
            setNeeds 2 255 = 0
            passenger 2 2 = 0
            passenger 1 2 = -1
            """);
        s.says("- `passenger`: number of a passenger - `needs`: 0 to 255 Returns the previous needs.", FLIGHT + """
            setNeeds 0 255 = 4
            passenger 0 1 = 255
            setNeeds 0 0 = 255
            passenger 0 1 = 0
            setNeeds 0 1 = 0
            setNeeds 2 1 = 0
            """);
        s.says("Throws NoSuchElementException if there is no such passenger", "setNeeds 0 0 = throws.NoSuchElementException\n"
            + FLIGHT + Script.beyond("setNeeds # 0", 0, 2, NO_ELEMENT) + Script.beyond("setNeeds # 256", 0, 2, NO_ELEMENT));
        s.says("Throws IllegalArgumentException if needs is out of range", FLIGHT
            + Script.beyond("setNeeds 0 #", 0, 255, NO_ARGUMENT) + "serve = 0\n"
            + Script.beyond("setNeeds 0 #", 0, 255, NO_ARGUMENT));
        s.says("Throws IllegalStateException if it is refused (reason 1); only reason() changes then", FLIGHT + """
            serve = 0
            setNeeds 0 0 = refused 1
            setNeeds 0 4 = refused 1
            """);
    }

    private static void loadOrder() {
        Section s = Section.of("Promise 17");
        s.says("Loads what is missing of the order: for each meal, by its number, the units that meal(.., 9) tells are stored "
            + "one by one.", FLIGHT + """
            // beef 1, soup 1, vg 1
            loadOrder = undone 3
            held 1 0 = 1
            held 0 1 = 1
            held 0 2 = 1
            count 9 = 1
            // by the numbers: x takes the only slot of the first trolley
            good cabin a 9;meal x special 1 5 offers a;meal y menu a 1 2 5;trolley a 3;trolley a 4;guests a 3;guest a needs a; = 4
            loadOrder = 4
            held 0 0 = 1
            held 0 1 = 1
            held 1 1 = 2
            // what is loaded and on its way is not missing
            good cabin a 9;meal x menu a 1 1 5;trolley a 9;guests a 6; = 6
            store 0 1 = 1
            topUp 0 3 = 1
            loadOrder = undone 2
            meal 0 5 = 3
            """);
        s.says("Returns the number of units that were stored.", FLIGHT + """
            loadOrder = 3
            loadOrder = undone 0
            count 9 = 2
            board 1 0 -1 = 3
            loadOrder = 1
            good = 0
            loadOrder = 0
            """);
    }

    private static void loadOrderThatThrows() {
        Section s = Section.of("Promise 17");
        s.says("If a unit cannot be stored, nothing is loaded.", """
            good cabin a 9;meal x special 1 5 offers a;meal y menu a 1 2 5;meal z special 1 1 offers b;trolley a 5;guests a 3;guest a needs a;guest a needs b; = 5
            store 0 1 = 1
            loadOrder = refused 3
            count 7 = 1
            count 9 = 1
            leave 0 = 4
            loadOrder = refused 3
            unload 0 1 = 0
            leave 2 = 3
            // 2 y and a z are as many as the slots
            loadOrder = 3
            trolley 0 2 = 0
            loadOrder = 0
            """);
        s.says("Throws IllegalStateException if it is refused (reasons 1, 2, 3); only reason() changes then", """
            loadOrder = refused 1
            """ + FLIGHT + """
            advance 80 = 0
            loadOrder = refused 2
            undo = 0
            advance 79 = 0
            loadOrder = 3
            advance 1 = 0
            loadOrder = refused 2
            serve = 3
            loadOrder = refused 1
            good cabin a 9;meal x menu a 1 1 5;guest a; = 1
            loadOrder = refused 3
            """);
    }

    private static void store() {
        Section s = Section.of("Promise 18");
        s.says("Loads some units of a meal one by one, in the phase 1.", FLIGHT + """
            store 0 1 = undone 1
            held 1 0 = 1
            // 19 more fit in there
            store 0 20 = undone 21
            held 1 0 = 20
            held 2 0 = 1
            held 0 0 = 0
            count 9 = 2
            advance 79 = 0
            store 1 1 = 1
            advance 1 = 0
            store 1 1 = refused 2
            """);
        s.says("If a unit cannot be stored, nothing is loaded.", FLIGHT + """
            store 0 23 = refused 3
            store 0 99 = refused 3
            count 7 = 0
            store 0 22 = 22
            store 0 1 = refused 3
            count 9 = 1
            """);
        s.says("- `meal`: number of a meal - `units`: 1 to 99 Returns the units of the meal that are loaded then.", FLIGHT + """
            store 2 1 = 1
            store 2 98 = 99
            unload 2 99 = 0
            store 2 99 = 99
            held 0 2 = 40
            held 1 2 = 40
            held 2 2 = 4
            held 3 2 = 15
            unload 2 9 = 90
            store 1 3 = 3
            """);
    }

    private static void storeThatThrows() {
        Section s = Section.of("Promise 18");
        s.says("Throws NoSuchElementException if there is no such meal", "store 0 1 = throws.NoSuchElementException\n"
            + FLIGHT + Script.beyond("store # 1", 0, 2, NO_ELEMENT) + Script.beyond("store # 0", 0, 2, NO_ELEMENT));
        s.says("Throws IllegalArgumentException if units is out of range", FLIGHT
            + Script.beyond("store 0 #", 1, 99, NO_ARGUMENT) + "serve = 0\n" + Script.beyond("store 0 #", 1, 99, NO_ARGUMENT));
        s.says("Throws IllegalStateException if it is refused (reasons 1, 2, 3); only reason() changes then", FLIGHT + """
            store 1 19 = refused 3
            store 1 18 = 18
            store 1 1 = refused 3
            advance 80 = 0
            store 1 1 = refused 2
            store 2 1 = refused 2
            serve = 1
            store 1 1 = refused 1
            """);
    }

    private static void unload() {
        Section s = Section.of("Promise 19");
        s.says("Takes some units of a meal out, in the phases 1 and 2: each out of the trolley with the greatest number that "
            + "has one.", FLIGHT + """
            store 2 90 = 90
            held 3 2 = 6
            unload 2 5 = undone 85
            held 3 2 = 1
            held 2 2 = 4
            unload 2 3 = 82
            held 3 2 = 0
            held 2 2 = 2
            held 1 2 = 40
            trolley 2 2 = 2
            trolley 3 2 = 15
            advance 80 = 0
            count 0 = 2
            unload 2 43 = undone 39
            held 0 2 = 39
            held 1 2 = 0
            advance 20 = 0
            unload 2 39 = 0
            held 0 2 = 0
            """);
        s.says("- `meal`: number of a meal - `units`: 1 to 99 Returns the units of the meal that are loaded then.", FLIGHT + """
            store 2 99 = 99
            unload 2 1 = 98
            store 2 1 = 99
            unload 2 99 = 0
            store 0 3 = 3
            store 1 2 = 2
            unload 0 2 = 1
            unload 1 2 = 0
            """);
    }

    private static void unloadThatThrows() {
        Section s = Section.of("Promise 19");
        s.says("Throws NoSuchElementException if there is no such meal", "unload 0 1 = throws.NoSuchElementException\n"
            + FLIGHT + Script.beyond("unload # 1", 0, 2, NO_ELEMENT) + Script.beyond("unload # 0", 0, 2, NO_ELEMENT));
        s.says("Throws IllegalArgumentException if units is out of range", FLIGHT + "store 0 1 = 1\n"
            + Script.beyond("unload 0 #", 1, 99, NO_ARGUMENT) + "serve = 1\n" + Script.beyond("unload 0 #", 1, 99, NO_ARGUMENT));
        s.says("Throws IllegalStateException if it is refused (reasons 1, 4); only reason() changes then", FLIGHT + """
            unload 0 1 = refused 4
            store 0 2 = 2
            store 2 9 = 9
            unload 0 3 = refused 4
            unload 0 99 = refused 4
            held 1 0 = 2
            serve = 2
            unload 0 1 = refused 1
            unload 0 3 = refused 1
            """);
    }

    private static void topUp() {
        Section s = Section.of("Promise 20");
        s.says("Asks for a top-up (section 3).", FLIGHT + """
            topUp 0 3 = undone 1
            topUpAt 0 0 = 0
            topUpAt 0 1 = 3
            topUpAt 0 2 = 90
            count 7 = 0
            advance 80 = 0
            count 0 = 2
            topUp 1 1 = undone 1
            advance 10 = 0
            topUp 1 1 = 1
            topUpAt 0 2 = 0
            """);
        s.says("If the lead time is 0, it arrives within the call, which is not refused by units that are sent back.", """
            good time 3 3;lead 0;cabin a 1;meal x special 2 5;trolley a 5; = 0
            topUp 0 1 = undone 0
            held 0 0 = 1
            topUp 0 99 = 0
            held 0 0 = 2
            topUp 0 1 = undone 0
            held 0 0 = 2
            count 6 = 0
            count 9 = 3
            reason = 0
            advance 3 = 0
            unload 0 1 = 1
            // no minutes are left, which is no less than the lead time
            topUp 0 1 = 0
            held 0 0 = 2
            """);
        s.says("- `meal`: number of a meal - `units`: 1 to 99 Returns how many top-ups are on their way then.", FLIGHT + """
            topUp 0 1 = 1
            topUp 0 99 = 2
            topUp 2 1 = 3
            topUp 2 1 = 4
            topUp 2 1 = 5
            topUp 2 1 = 6
            topUpAt 1 1 = 99
            advance 10 = 78
            topUp 1 1 = 1
            """);
    }

    private static void topUpThatThrows() {
        Section s = Section.of("Promise 20");
        s.says("Throws NoSuchElementException if there is no such meal", "topUp 0 1 = throws.NoSuchElementException\n"
            + FLIGHT + Script.beyond("topUp # 1", 0, 2, NO_ELEMENT) + Script.beyond("topUp # 0", 0, 2, NO_ELEMENT));
        s.says("Throws IllegalArgumentException if units is out of range", FLIGHT
            + Script.beyond("topUp 0 #", 1, 99, NO_ARGUMENT) + "serve = 0\n" + Script.beyond("topUp 0 #", 1, 99, NO_ARGUMENT));
        s.says("Throws IllegalStateException if it is refused (reasons 1, 5, 6); only reason() changes then", FLIGHT + """
            advance 91 = 0
            topUp 0 1 = refused 6
            undo = 0
            topUp 0 1 = 1
            topUp 0 1 = 2
            topUp 0 1 = 3
            topUp 0 1 = 4
            topUp 0 1 = 5
            topUp 0 1 = 6
            topUp 0 1 = refused 5
            advance 9 = 0
            topUp 0 1 = refused 5
            advance 1 = 0
            topUp 0 1 = 1
            advance 81 = 0
            topUp 0 1 = refused 6
            serve = 1
            topUp 0 1 = refused 1
            """);
    }

    private static void advance() {
        Section s = Section.of("Promise 21");
        s.says("Lets minutes pass; top-ups arrive.", FLIGHT + """
            advance 1 = undone 0
            count 5 = 99
            topUp 0 1 = 1
            advance 4 = 0
            topUp 0 2 = 2
            advance 5 = 0
            count 6 = 2
            advance 1 = undone 0
            count 6 = 1
            held 1 0 = 1
            // both at once
            topUp 2 5 = 2
            advance 50 = 0
            count 6 = 0
            count 7 = 8
            count 9 = 8
            """);
        s.says("- `minutes`: 1 to 999", """
            good time 999 0; = 0
            advance 999 = 0
            count 5 = 0
            undo = 0
            advance 1 = 0
            count 5 = 998
            advance 998 = 0
            """);
        s.says("Returns the units that were sent back.", """
            good lead 2;cabin a 1;meal x special 2 5;trolley a 5; = 0
            topUp 0 2 = 1
            advance 1 = 0
            topUp 0 3 = 2
            topUp 0 99 = 3
            advance 1 = 0
            advance 1 = 102
            advance 1 = 0
            unload 0 2 = 0
            topUp 0 3 = 1
            advance 1 = 0
            topUp 0 1 = 2
            // 1 of the first and that of the second
            advance 9 = 2
            """);
        s.says("Throws IllegalArgumentException if minutes is out of range", Script.beyond("advance #", 1, 999, NO_ARGUMENT)
            + FLIGHT + Script.beyond("advance #", 1, 999, NO_ARGUMENT) + "serve = 0\n"
            + Script.beyond("advance #", 1, 999, NO_ARGUMENT) + "reason = 0\n");
        s.says("Throws IllegalStateException if it is refused (reasons 1, 7); only reason() changes then", """
            advance 1 = refused 1
            advance 999 = refused 1
            """ + FLIGHT + """
            topUp 0 1 = 1
            advance 101 = refused 7
            advance 999 = refused 7
            advance 100 = 0
            count 7 = 1
            advance 1 = refused 7
            serve = 1
            advance 1 = refused 1
            """);
    }

    private static void reason() {
        Section s = Section.of("Promise 22");
        s.says("Returns the reason of the latest act that was refused in this flight (1 to 9, section 6; without a flight "
            + "since the beginning); 0 if there was none.", "reason = 0\nserve = refused 1\nerror 1 ^$\nreason = 1\n"
            + FLIGHT + """
            reason = 0
            store 0 99 = refused 3
            store 0 1 = 1
            reason = 3
            unload 0 2 = refused 4
            // none of these is an act that is refused
            store 0 0 = throws.IllegalArgumentException
            store 3 1 = throws.NoSuchElementException
            load 1 = throws.IllegalArgumentException
            restore 0 = throws.NoSuchElementException
            error 1 ^$
            reason = 4
            serve = 1
            reason = 4
            serve = refused 1
            good = 0
            reason = 0
            undo = throws.IllegalStateException
            reason = 0
            """);
        s.says("Undo and slots do not change it.", FLIGHT + """
            store 0 1 = 1
            keep 0 = 1
            store 0 99 = refused 3
            undo = 0
            reason = 3
            undo = throws.IllegalStateException
            reason = 3
            advance 101 = refused 7
            keep 1 = 1
            reason = 7
            unload 0 1 = refused 4
            restore 0 = 1
            reason = 4
            restore 1 = 1
            reason = 4
            """);
    }
}
