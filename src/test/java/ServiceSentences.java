/** Promises 23 to 34, sentence by sentence: the service, the accounts, undo, the slots and the output. */
final class ServiceSentences {
    private static final String FLIGHT = "good time 100 20;lead 10;cabin f 9;cabin y 9;"
        + "meal beef menu f 2 2 50 offers a;meal soup menu y 5 3 9 offers ab;meal vg special 1 70 offers abc;"
        + "trolley y 7;trolley f 5;trolley y 8;guests f 2;guest y wish soup;guest y needs c; = 4\n";
    private static final String NO_ARGUMENT = "IllegalArgumentException";
    private static final String NO_ELEMENT = "NoSuchElementException";

    static void run() {
        outlook();
        mealFor();
        serve();
        account();
        wasteShare();
        wasteBits();
        costBits();
        undo();
        latestTwelve();
        undoneActs();
        keep();
        restore();
        writeTrolley();
        outputByte();
        manyCalls();
    }

    private static void outlook() {
        Section s = Section.of("Promise 23");
        s.says("Tells what the service would be now (behind the service: what it was). - `what`: 0 special passengers who get "
            + "a meal, 1 passengers who get a meal, 2 hungry passengers, 3 units that are wasted, 4 their cost, 5 plain "
            + "passengers who get their wish Returns that number;", FLIGHT + """
            outlook 0 = 0
            outlook 1 = 0
            outlook 2 = 4
            outlook 3 = 0
            outlook 4 = 0
            outlook 5 = 0
            store 0 1 = 1
            store 1 2 = 2
            store 2 3 = 3
            outlook 0 = 1
            outlook 1 = 3
            outlook 2 = 1
            outlook 3 = 3
            outlook 4 = 149
            outlook 5 = 1
            keep 0 = 1
            setNeeds 2 2 = 0
            // the wish of a special passenger does not count
            outlook 0 = 2
            outlook 5 = 0
            restore 0 = 1
            serve = 3
            outlook 0 = 1
            outlook 1 = 3
            outlook 2 = 1
            outlook 3 = 3
            outlook 4 = 149
            outlook 5 = 1
            """);
        s.says("0 without a flight.", """
            outlook 0 = 0
            outlook 1 = 0
            outlook 2 = 0
            outlook 3 = 0
            outlook 4 = 0
            outlook 5 = 0
            """);
        s.says("Throws IllegalArgumentException if what is out of range", Script.beyond("outlook #", 0, 5, NO_ARGUMENT)
            + FLIGHT + Script.beyond("outlook #", 0, 5, NO_ARGUMENT));
    }

    private static void mealFor() {
        Section s = Section.of("Promise 24");
        s.says("- `passenger`: number of a passenger Returns the meal that the passenger would get if the service was now "
            + "(behind the service: got); NONE if none.", FLIGHT + """
            mealFor 0 = -1
            mealFor 3 = -1
            store 0 1 = 1
            store 1 1 = 1
            store 2 1 = 1
            mealFor 0 = 0
            mealFor 1 = -1
            mealFor 2 = 1
            mealFor 3 = 2
            topUp 0 1 = 1
            mealFor 1 = -1
            serve = 3
            mealFor 0 = 0
            mealFor 1 = -1
            mealFor 2 = 1
            mealFor 3 = 2
            undo = 4
            advance 10 = 0
            mealFor 1 = 0
            """);
        s.says("Throws NoSuchElementException if there is no such passenger", "mealFor 0 = throws.NoSuchElementException\n"
            + FLIGHT + Script.beyond("mealFor #", 0, 3, NO_ELEMENT) + "leave 0 = 3\n"
            + Script.beyond("mealFor #", 0, 2, NO_ELEMENT) + "good = 0\nmealFor 0 = throws.NoSuchElementException\n");
    }

    private static void serve() {
        Section s = Section.of("Promise 25");
        s.says("Serves the meals.", FLIGHT + """
            store 0 1 = 1
            store 2 2 = 2
            serve = undone 2
            count 0 = 3
            passenger 0 3 = 0
            passenger 1 3 = -1
            passenger 2 3 = -1
            passenger 3 3 = 2
            meal 0 8 = 1
            meal 2 8 = 1
            account 0 = 3
            account 1 = 2
            account 2 = 1
            account 3 = 70
            account 4 = 2
            account 5 = 1
            // in the phase 2
            good time 5 9;cabin a 1;meal x menu a 1 1 1;trolley a 9;guest a; = 1
            count 0 = 2
            serve = 0
            account 4 = 3
            account 5 = 2
            """);
        s.says("No minutes are left then, and nothing is on its way.", FLIGHT + """
            topUp 0 1 = 1
            topUp 1 1 = 2
            serve = undone 0
            count 5 = 0
            count 6 = 0
            count 7 = 0
            meal 0 7 = 0
            topUpAt 0 0 = throws.IndexOutOfBoundsException
            undo = 2
            count 5 = 100
            count 6 = 2
            """);
        s.says("Returns the number of units that are eaten.", FLIGHT + """
            serve = 0
            undo = 0
            loadOrder = 4
            serve = 4
            good cabin a 40;meal x menu a 1 1 1;trolley a 40;guests a 40; = 40
            store 0 40 = 40
            serve = 40
            """);
        s.says("Throws IllegalStateException if it is refused (reason 1); only reason() changes then", "serve = refused 1\n"
            + FLIGHT + """
            store 0 1 = 1
            serve = 1
            serve = refused 1
            account 5 = 1
            undo = 1
            serve = 1
            """);
    }

    private static void account() {
        Section s = Section.of("Promise 26");
        s.says("- `what`: 0 units that were loaded, 1 eaten, 2 wasted, 3 the cost of those that were wasted, 4 hungry "
            + "passengers, 5 services Returns that account.", FLIGHT + """
            store 0 1 = 1
            store 2 3 = 3
            account 0 = 0
            account 5 = 0
            serve = 2
            account 0 = 4
            account 1 = 2
            account 2 = 2
            account 3 = 140
            account 4 = 2
            account 5 = 1
            good cabin a 1;meal x special 1 9999;trolley a 40;trolley a 40;trolley a 19;guest a; = 1
            store 0 99 = 99
            serve = 0
            account 0 = 103
            account 1 = 2
            account 2 = 101
            account 3 = 990041
            account 4 = 3
            account 5 = 2
            """);
        s.says("Throws IllegalArgumentException if what is out of range", Script.beyond("account #", 0, 5, NO_ARGUMENT)
            + FLIGHT + "serve = 0\n" + Script.beyond("account #", 0, 5, NO_ARGUMENT));
    }

    private static void wasteShare() {
        Section s = Section.of("Promise 27");
        s.says("Returns the units that were wasted divided by those that were loaded, both accounts as floats, as a float;",
            FLIGHT + """
            store 2 2 = 2
            serve = 1
            wasteShare = 0.5
            good cabin a 1;meal x special 1 1;trolley a 9; = 0
            store 0 1 = 1
            serve = 0
            // 2 of 3: as a float, not as a double
            wasteShare = 0.6666667
            """);
        s.says("both accounts as floats, as a float;", """
            good cabin a 1;meal x special 1 1;trolley a 9; = 0
            store 0 1 = 1
            serve = 0
            wasteShare = 1.0
            good cabin a 9;meal x menu a 1 1 1;trolley a 9;guests a 9; = 9
            loadOrder = 9
            serve = 9
            wasteShare = 0.1
            """);
        s.says("0 if none were loaded.", "wasteShare = 0.0\n" + FLIGHT + """
            wasteShare = 0.0
            store 0 1 = 1
            wasteShare = 0.0
            unload 0 1 = 0
            serve = 0
            account 5 = 1
            wasteShare = 0.0
            """);
    }

    private static void wasteBits() {
        Section s = Section.of("Promise 28");
        StringBuilder lines = new StringBuilder("wasteBits = 0\n");
        // One unit more is wasted each time, one of x is eaten: 0/1, 1/3, 2/5 and so on.
        lines.append("good cabin a 9;meal x menu a 1 1 1;meal y special 1 1;trolley a 40;guests a 1; = 1\nstore 0 1 = 1\n"
            + "serve = 1\nwasteBits = float 0/1\nundo = 1\n");
        for (int wasted = 1; wasted < 30; wasted++) {
            lines.append("store 1 1 = ").append(wasted).append("\nserve = 1\nwasteBits = float ").append(wasted).append('/')
                .append(wasted + 1).append("\nundo = ").append(Math.min(wasted + 1, 11)).append('\n');
        }
        s.says("Returns the bits of wasteShare(), as Float.floatToIntBits() tells them.", lines.toString());
        s.says("Returns the bits of wasteShare(), as Float.floatToIntBits() tells them.", """
            good cabin a 1;meal x special 1 1;trolley a 9; = 0
            store 0 1 = 1
            serve = 0
            wasteBits = float 1/1
            good cabin a 40;meal x menu a 1 1 1;trolley a 40;guests a 40; = 40
            loadOrder = 40
            serve = 40
            wasteBits = float 1/41
            good cabin a 40;meal x menu a 1 1 1;trolley a 40;guests a 40; = 40
            loadOrder = 40
            serve = 40
            wasteBits = float 1/81
            good cabin a 40;meal x menu a 1 1 1;trolley a 40;guests a 40; = 40
            loadOrder = 40
            serve = 40
            wasteBits = float 1/121
            """);
    }

    private static void costBits() {
        Section s = Section.of("Promise 29");
        s.says("Returns the bits of the cost of what was wasted divided by the number of services, both accounts as doubles, "
            + "as Double.doubleToLongBits() tells them;", """
            good cabin a 9;meal x menu a 1 1 9999;trolley a 40;trolley a 40;trolley a 40;guests a 1; = 1
            store 0 1 = 1
            serve = 1
            costBits = 0
            undo = 1
            store 0 1 = 2
            serve = 1
            costBits = double 9999/1
            undo = 2
            store 0 97 = 99
            serve = 1
            costBits = double 979902/1
            good = 0
            serve = 0
            costBits = double 979902/2
            good = 0
            serve = 0
            costBits = double 979902/3
            good = 0
            serve = 0
            costBits = double 979902/4
            """);
        s.says("both accounts as doubles,", """
            // less than one a service
            good cabin a 9;meal x special 1 1;trolley a 7; = 0
            store 0 1 = 1
            serve = 0
            costBits = double 1/1
            good = 0
            serve = 0
            costBits = double 1/2
            good = 0
            serve = 0
            costBits = double 1/3
            good = 0
            serve = 0
            good = 0
            serve = 0
            good = 0
            serve = 0
            good = 0
            serve = 0
            costBits = double 1/7
            """);
        s.says("0 without services.", "costBits = 0\n" + FLIGHT + "store 0 1 = 1\ncostBits = 0\nserve = 1\ncostBits = 0\n"
            + "undo = 1\ncostBits = 0\n");
    }

    private static void undo() {
        Section s = Section.of("Promise 30");
        s.says("Undoes the latest act (a call of board(), change(), leave(), setNeeds(), loadOrder(), store(), unload(), "
            + "topUp(), advance() or serve() that did not throw) that was not undone;", FLIGHT + """
            setNeeds 0 1 = 0
            setNeeds 0 2 = 1
            undo = 1
            passenger 0 1 = 1
            undo = 0
            passenger 0 1 = 0
            setNeeds 0 4 = 0
            setNeeds 0 8 = 4
            // what throws, and what is no act, is not undone
            store 0 99 = refused 3
            store 0 100 = throws.IllegalArgumentException
            keep 0 = 1
            writeTrolley 0 = 1
            feeds lead 5; = 20
            mealFor 0 = -1
            undo = 1
            passenger 0 1 = 4
            setNeeds 0 16 = 4
            undo = 1
            undo = 0
            passenger 0 1 = 0
            load 7 = 0
            restore 0 = throws.NoSuchElementException
            """);
        s.says("Returns how many acts can still be undone.", FLIGHT + """
            setNeeds 0 1 = 0
            setNeeds 0 2 = 1
            setNeeds 0 3 = 2
            count 9 = 3
            undo = 2
            count 9 = 2
            undo = 1
            undo = 0
            count 9 = 0
            """);
        s.says("Throws IllegalStateException if there is none", "undo = throws.IllegalStateException\n" + FLIGHT + """
            undo = throws.IllegalStateException
            leave 0 = 3
            undo = 0
            undo = throws.IllegalStateException
            count 3 = 4
            leave 0 = 3
            keep 0 = 1
            restore 0 = 1
            undo = throws.IllegalStateException
            leave 0 = 2
            good = 0
            undo = throws.IllegalStateException
            reason = 0
            """);
    }

    private static void latestTwelve() {
        Section s = Section.of("Promise 30");
        for (int acts = 11; acts <= 14; acts++) {
            StringBuilder lines = new StringBuilder(FLIGHT);
            for (int act = 1; act <= acts; act++) {
                lines.append("setNeeds 0 ").append(act).append(" = ").append(act - 1).append('\n');
                lines.append("count 9 = ").append(Math.min(act, 12)).append('\n');
            }
            // A refused act takes no place.
            lines.append("store 0 99 = refused 3\ncount 9 = ").append(Math.min(acts, 12)).append('\n');
            for (int left = Math.min(acts, 12) - 1; left >= 0; left--) {
                lines.append("undo = ").append(left).append('\n');
                lines.append("passenger 0 1 = ").append(left + Math.max(0, acts - 12)).append('\n');
            }
            s.says("the latest 12 can be undone.", lines + "undo = throws.IllegalStateException\n");
        }
    }

    private static void undoneActs() {
        Section s = Section.of("Promise 30");
        s.says("All but reason() is as before the act, the accounts, too.", FLIGHT + """
            board 0 3 0 = undone 4
            change 2 0 = undone 1
            leave 0 = undone 4
            setNeeds 2 7 = undone 4
            undo = 3
            // 2 of beef, 2 of vg
            loadOrder = undone 4
            unload 0 1 = undone 1
            store 2 1 = undone 3
            topUp 1 2 = undone 1
            topUp 0 9 = undone 2
            advance 9 = undone 0
            // one of beef has room
            advance 1 = undone 8
            serve = undone 4
            """ + FLIGHT + """
            store 2 4 = 4
            serve = 1
            keep 0 = 3
            good time 9 5;cabin a 2;meal x menu a 1 2 30;trolley a 9;lead 1;guest a wish x; = 1
            store 0 2 = undone 2
            topUp 0 2 = undone 1
            serve = undone 1
            account 0 = 13
            account 5 = 3
            undo = 2
            account 0 = 11
            account 5 = 2
            """);
        s.says("All but reason() is as before the act", FLIGHT + """
            // what was asked behind the act and ahead of it tells of the flight as it is
            loadOrder = 4
            mealFor 0 = 0
            outlook 1 = 4
            setNeeds 0 255 = 0
            mealFor 0 = -1
            outlook 1 = 3
            undo = 1
            mealFor 0 = 0
            outlook 1 = 4
            unload 0 1 = 1
            mealFor 1 = -1
            undo = 1
            mealFor 1 = 0
            """);
    }

    private static void keep() {
        Section s = Section.of("Promise 31");
        s.says("Keeps the flight (in the phase 0: that there is none) and the accounts in a slot, in place of what it had.",
            "keep 0 = 0\nserve = refused 1\nrestore 0 = 0\ncount 0 = 0\n" + FLIGHT + """
            store 0 1 = 1
            topUp 0 1 = 1
            keep 0 = 1
            serve = 1
            leave 0 = refused 1
            restore 0 = 1
            account 5 = 0
            count 5 = 100
            count 6 = 1
            count 7 = 1
            topUpAt 0 2 = 90
            mealFor 0 = 0
            passenger 0 3 = -1
            serve = 1
            keep 0 = 3
            undo = 0
            account 5 = 0
            restore 0 = 3
            account 5 = 1
            account 0 = 1
            passenger 0 3 = 0
            """);
        s.says("- `slot`: 0 or 1", FLIGHT + """
            keep 0 = 1
            leave 0 = 3
            keep 1 = 1
            leave 0 = 2
            restore 0 = 1
            count 3 = 4
            restore 1 = 1
            count 3 = 3
            """);
        s.says("Returns the phase.", "keep 1 = 0\n" + FLIGHT + """
            keep 0 = 1
            advance 80 = 0
            keep 0 = 2
            serve = 0
            keep 0 = 3
            // it is no act
            count 9 = 2
            """);
        s.says("Throws IllegalArgumentException if slot is out of range", Script.beyond("keep #", 0, 1, NO_ARGUMENT)
            + FLIGHT + "keep 0 = 1\n" + Script.beyond("keep #", 0, 1, NO_ARGUMENT));
    }

    private static void restore() {
        Section s = Section.of("Promise 32");
        s.says("Brings back what a slot has, which stays there.", FLIGHT + """
            keep 0 = 1
            leave 0 = 3
            store 2 1 = 1
            restore 0 = 1
            count 3 = 4
            count 7 = 0
            // an act behind it does not change the slot
            leave 0 = 3
            store 2 2 = 2
            topUp 0 1 = 1
            mealFor 2 = 2
            outlook 3 = 1
            restore 0 = 1
            mealFor 3 = -1
            outlook 3 = 0
            count 3 = 4
            count 6 = 0
            count 7 = 0
            restore 0 = 1
            count 3 = 4
            """);
        s.says("Nothing can be undone then.", FLIGHT + """
            leave 0 = 3
            keep 0 = 1
            leave 0 = 2
            restore 0 = 1
            count 9 = 0
            undo = throws.IllegalStateException
            leave 0 = 2
            undo = 0
            count 3 = 3
            undo = throws.IllegalStateException
            """);
        s.says("- `slot`: 0 or 1 Returns the phase.", "keep 0 = 0\nrestore 0 = 0\n" + FLIGHT + """
            keep 0 = 1
            advance 80 = 0
            keep 1 = 2
            restore 0 = 1
            restore 1 = 2
            serve = 0
            keep 0 = 3
            restore 1 = 2
            restore 0 = 3
            """);
        s.says("Throws IllegalArgumentException if slot is out of range", Script.beyond("restore #", 0, 1, NO_ARGUMENT)
            + FLIGHT + "keep 0 = 1\nkeep 1 = 1\n" + Script.beyond("restore #", 0, 1, NO_ARGUMENT));
        s.says("Throws NoSuchElementException if the slot is empty", """
            restore 0 = throws.NoSuchElementException
            restore 1 = throws.NoSuchElementException
            """ + FLIGHT + """
            keep 1 = 1
            leave 0 = 3
            restore 0 = throws.NoSuchElementException
            count 9 = 1
            restore 1 = 1
            keep 0 = 1
            good = 0
            restore 0 = throws.NoSuchElementException
            restore 1 = throws.NoSuchElementException
            """);
    }

    private static void writeTrolley() {
        Section s = Section.of("Promise 33");
        s.says("Writes a trolley to the output buffer, replacing its content: for each meal of which it has units, by its "
            + "number, the units, the sign x and the name of the meal, with a space between two meals; and a line feed "
            + "(behind the service: as it was ahead of it).", """
            good cabin a 9;meal x menu a 1 1 5;meal abcdef special 1 7;meal z special 1 7;trolley a 40;trolley a 30;guests a 2; = 2
            writes 0 =
            store 2 9 = 9
            store 1 10 = 10
            writes 0 = 10xabcdef 9xz
            store 0 30 = 30
            writes 0 = 21xx 10xabcdef 9xz
            writes 1 = 9xx
            writes 0 = 21xx 10xabcdef 9xz
            unload 1 10 = 0
            writes 0 = 21xx 9xz
            serve = 2
            writes 0 = 21xx 9xz
            good cabin a 9;meal a special 1 1;trolley a 40; = 0
            store 0 40 = 40
            writes 0 = 40xa
            unload 0 1 = 39
            writes 0 = 39xa
            unload 0 20 = 19
            writes 0 = 19xa
            unload 0 18 = 1
            writes 0 = 1xa
            """);
        StringBuilder meals = new StringBuilder();
        StringBuilder stores = new StringBuilder();
        StringBuilder line = new StringBuilder();
        for (int m = 0; m < 12; m++) {
            String name = ("" + (char) ('a' + m)).repeat(6);
            meals.append("meal ").append(name).append(" special 1 1;");
            int units = m < 2 ? 10 : 2;
            stores.append("store ").append(m).append(' ').append(units).append(" = ").append(units).append('\n');
            line.append(m == 0 ? "" : " ").append(units).append('x').append(name);
        }
        s.says("- `trolley`: number of a trolley Returns the length of the output.", "good cabin a 9;trolley a 40;trolley a 1;"
            + meals + " = 0\nwriteTrolley 0 = 1\n" + stores + "writeTrolley 0 = 110\nwrites 0 = " + line
            + "\nwriteTrolley 1 = 1\noutputByte 0 = 10\noutputByte 1 = throws.IndexOutOfBoundsException\n");
        s.says("Throws NoSuchElementException if there is no such trolley", "writeTrolley 0 = throws.NoSuchElementException\n"
            + FLIGHT + Script.beyond("writeTrolley #", 0, 2, NO_ELEMENT) + "store 0 1 = 1\nwrites 1 = 1xbeef\n"
            + Script.beyond("writeTrolley #", 0, 2, NO_ELEMENT));
    }

    private static void outputByte() {
        Section s = Section.of("Promise 34");
        s.says("- `index`: index into the output buffer Returns the byte at that index.", FLIGHT + """
            store 0 2 = 2
            writeTrolley 1 = 7
            outputByte 0 = 50
            outputByte 1 = 120
            outputByte 2 = 98
            outputByte 3 = 101
            outputByte 4 = 101
            outputByte 5 = 102
            outputByte 6 = 10
            // what was written stays
            unload 0 1 = 1
            serve = 1
            good = 0
            outputByte 0 = 50
            outputByte 6 = 10
            """);
        s.says("Throws IndexOutOfBoundsException if index is negative or not less than the length of the output",
            Script.beyond("outputByte #", 0, -1, "IndexOutOfBoundsException") + FLIGHT + "store 0 2 = 2\nwriteTrolley 1 = 7\n"
            + Script.beyond("outputByte #", 0, 6, "IndexOutOfBoundsException") + "writeTrolley 0 = 1\n"
            + Script.beyond("outputByte #", 0, 0, "IndexOutOfBoundsException"));
    }

    private static void manyCalls() {
        Section s = Section.of("What it is");
        StringBuilder acts = new StringBuilder(FLIGHT);
        for (int act = 1; act <= 480; act++) {
            acts.append("setNeeds 0 ").append(act % 256).append(" = ").append((act - 1) % 256).append('\n');
        }
        s.says("An object is used for at most 512 calls after it has been made", acts + "count 9 = 12\nundo = 11\n"
            + "passenger 0 1 = 223\n");
        // 320 units of the greatest cost are wasted each time.
        StringBuilder flights = new StringBuilder();
        for (int flight = 1; flight <= 25; flight++) {
            flights.append("good cabin a 1;meal x special 1 9999;").append("trolley a 40;".repeat(8)).append(" = 0\n")
                .append("store 0 99 = 99\nstore 0 99 = 198\nstore 0 99 = 297\nstore 0 23 = 320\nserve = 0\n")
                .append("account 0 = ").append(320 * flight).append("\naccount 3 = ").append(3199680L * flight).append('\n');
        }
        s.says("An object is used for at most 512 calls after it has been made", flights + "wasteBits = float 1/1\n"
            + "costBits = double 3199680/1\naccount 5 = 25\n");
    }
}
