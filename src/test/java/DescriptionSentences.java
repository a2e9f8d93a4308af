/** The description, 1 to 4 and 6, sentence by sentence: the edges that each names, and what lies just beyond them. */
final class DescriptionSentences {
    private static final String CABINS = "cabin a 40;cabin b 9;cabin c 9;cabin d 9;";
    private static final String MEALS = "meal a special 1 1;meal b special 1 1;meal c special 1 1;meal d special 1 1;"
        + "meal e special 1 1;meal f special 1 1;meal g special 1 1;meal h special 1 1;meal i special 1 1;"
        + "meal j special 1 1;meal k special 1 1;meal l special 1 2;";
    private static final String TROLLEYS = "trolley a 1;trolley a 1;trolley a 1;trolley a 1;trolley a 1;trolley a 1;"
        + "trolley a 1;trolley b 2;";
    private static final String SIX_TOP_UPS = """
        topUp 0 1 = 1
        topUp 0 1 = 2
        topUp 0 1 = 3
        topUp 0 1 = 4
        topUp 0 1 = 5
        topUp 0 1 = 6
        """;

    static void run() {
        cabinsAndMeals();
        passengersAndTrolleys();
        order();
        time();
        topUps();
        matching();
        plainPassengers();
        accounts();
        reasons();
        severalReasons();
        severalExceptions();
        constants();
    }

    private static void cabinsAndMeals() {
        Section s = Section.of("Description 1");
        s.says("A flight has at most 4 cabins, 12 meals, 40 passengers and 8 trolleys, each numbered from 0.",
            "good " + CABINS + MEALS + TROLLEYS + "guests a 39;guest b; = 40" + """

            count 1 = 4
            count 2 = 12
            count 3 = 40
            count 4 = 8
            cabin 0 0 = 40
            cabin 3 0 = 9
            cabin 4 0 = throws.NoSuchElementException
            cabin -1 0 = throws.NoSuchElementException
            meal 0 3 = 1
            meal 11 3 = 2
            meal 12 3 = throws.NoSuchElementException
            meal -1 3 = throws.NoSuchElementException
            passenger 0 0 = 0
            passenger 39 0 = 1
            passenger 40 0 = throws.NoSuchElementException
            passenger -1 0 = throws.NoSuchElementException
            trolley 0 1 = 1
            trolley 7 1 = 2
            trolley 8 1 = throws.NoSuchElementException
            trolley -1 1 = throws.NoSuchElementException
            board 0 0 -1 = refused 8
            store 11 9 = 9
            store 0 1 = refused 3
            held 6 11 = 1
            held 7 11 = 2
            trolley 7 2 = 0
            trolley 7 3 = 2
            cabin 0 5 = 0
            cabin 1 5 = 0
            cabin 3 5 = 0
            count 7 = 9
            meal 11 5 = 9
            outlook 2 = 40
            outlook 3 = 9
            outlook 4 = 18
            writes 7 = 2xl
            loadOrder = 0
            unload 11 3 = 6
            held 7 11 = 0
            held 6 11 = 0
            topUp 11 1 = 1
            meal 11 7 = 1
            setNeeds 39 1 = 0
            mealFor 39 = -1
            change 39 3 = 1
            leave 0 = 39
            board 0 0 -1 = 39
            advance 10 = 0
            held 6 11 = 1
            serve = 0
            account 4 = 40
            """
            + "error 4 " + CABINS + "^cabin e 1;\n"
            + "error 4 " + MEALS + "^meal m special 1 1;\n"
            + "error 4 " + CABINS + TROLLEYS + "^trolley b 1;\n"
            + "error 4 " + CABINS + "guests a 40;^guest b;\n"
            + "error 5 " + CABINS + "guests a 40;guests b ^1;\n");
        s.says("- A cabin has a number of seats, 1 to 40, and a spare percentage, 0 to 50.", """
            good cabin a 1 0;cabin b 40 50; = 0
            cabin 0 0 = 1
            cabin 0 1 = 0
            cabin 1 0 = 40
            cabin 1 1 = 50
            error 2 cabin a ^0;
            error 2 cabin a ^41;
            error 2 cabin a 1 ^51;
            """);
        s.says("At most as many passengers are in it as it has seats.", """
            good cabin a 1;cabin b 40;cabin c 3;guests b 38; = 38
            board 0 0 -1 = 38
            board 0 0 -1 = refused 9
            change 0 0 = refused 9
            leave 38 = 38
            change 0 0 = 1
            change 1 0 = refused 9
            change 1 2 = 1
            change 2 2 = 1
            change 3 2 = 1
            change 4 2 = refused 9
            error 5 cabin a 1;guest a;guest ^a;
            error 5 cabin a 3;guest a;guests a ^3;
            good cabin a 3;guest a;guests a 2; = 3
            """);
        s.says("- A meal is on the menu of one cabin, with a share, 1 to 99, or it is a special meal (of no cabin).", """
            good cabin a 1;cabin b 1;meal x menu b 1 1 1;meal y menu b 99 1 1;meal z special 1 1; = 0
            meal 0 0 = 1
            meal 0 1 = 1
            meal 1 1 = 99
            meal 2 0 = -1
            meal 2 1 = 0
            cabin 0 6 = 0
            cabin 1 6 = 3
            error 2 cabin a 1;meal x menu a ^0 1 1;
            error 2 cabin a 1;meal x menu a ^100 1 1;
            """);
        s.says("It has a size, 1 to 3 slots, a cost, 1 to 9999, and offers some of 8 diets (a to h), told as a bit set: "
            + "bit 0 for a, and so on.", """
            good meal x special 1 1 offers a;meal y special 3 9999 offers h;meal z special 2 2;meal w special 1 1 offers hgfedcba; = 0
            meal 0 2 = 1
            meal 0 3 = 1
            meal 0 4 = 1
            meal 1 2 = 3
            meal 1 3 = 9999
            meal 1 4 = 128
            meal 2 4 = 0
            meal 3 4 = 255
            error 2 meal x special ^0 1;
            error 2 meal x special ^4 1;
            error 2 meal x special 1 ^0;
            error 1 meal x special 1 ^10000;
            error 1 meal x special 1 1 offers ^i;
            """);
    }

    private static void passengersAndTrolleys() {
        Section s = Section.of("Description 1");
        s.says("- A passenger is in a cabin, has needs (a bit set of diets), and may have a wish, a meal of the menu of "
            + "the cabin.", """
            good cabin a 9;cabin b 9;meal x menu b 1 1 1;meal z special 1 1;guest b needs ah wish x;guest a; = 2
            passenger 0 0 = 1
            passenger 0 1 = 129
            passenger 0 2 = 0
            passenger 1 0 = 0
            passenger 1 1 = 0
            passenger 1 2 = -1
            board 0 0 0 = throws.IllegalArgumentException
            board 1 0 1 = throws.IllegalArgumentException
            board 1 0 0 = 2
            error 3 cabin a 9;cabin b 9;meal x menu b 1 1 1;guest a wish ^x;
            error 3 cabin a 9;meal z special 1 1;guest a wish ^z;
            """);
        s.says("A passenger without needs is plain, others are special.", """
            good cabin a 9;guest a;guest a needs a;guest a needs h; = 3
            cabin 0 3 = 2
            setNeeds 0 128 = 0
            cabin 0 3 = 3
            setNeeds 0 1 = 128
            cabin 0 3 = 3
            setNeeds 1 0 = 1
            cabin 0 3 = 2
            """);
        s.says("- A trolley belongs to a cabin and has 1 to 40 slots.", """
            good cabin a 9;cabin b 9;trolley b 1;trolley a 40; = 0
            trolley 0 0 = 1
            trolley 0 1 = 1
            trolley 1 0 = 0
            trolley 1 1 = 40
            error 2 cabin a 9;trolley a ^0;
            error 2 cabin a 9;trolley a ^41;
            """);
        s.says("It takes meals of the menu of its cabin, and special meals.", """
            good cabin a 9;cabin b 9;meal x menu a 1 1 1;meal y menu b 1 1 1;meal z special 1 1;trolley b 2; = 0
            store 0 1 = refused 3
            store 1 1 = 1
            store 2 1 = 1
            held 0 0 = 0
            held 0 1 = 1
            held 0 2 = 1
            """);
        s.says("Each unit of a meal takes as many slots of one trolley as the size tells.", """
            good cabin a 9;meal x special 1 1;meal y special 2 1;meal z special 3 1;trolley a 2;trolley a 5; = 0
            store 2 1 = 1
            held 1 2 = 1
            trolley 1 2 = 2
            // 2 slots are free in each: not 3 in one
            store 2 1 = refused 3
            store 1 2 = 2
            trolley 0 2 = 0
            trolley 1 2 = 0
            store 0 1 = refused 3
            """);
        s.says("A unit that is stored goes into the trolley with the lowest number that takes its meal and has enough "
            + "free slots; if there is none, it cannot be stored.", """
            good cabin a 9;cabin b 9;meal x menu a 1 2 1;trolley b 9;trolley a 1;trolley a 2;trolley a 4; = 0
            store 0 1 = 1
            held 2 0 = 1
            store 0 2 = 3
            held 0 0 = 0
            held 1 0 = 0
            held 2 0 = 1
            held 3 0 = 2
            store 0 1 = refused 3
            unload 0 3 = 0
            store 0 3 = 3
            held 2 0 = 1
            // no trolley at all
            good cabin a 9;meal x special 1 1; = 0
            store 0 1 = refused 3
            """);
        s.says("A meal suits a passenger if it is a special meal or on the menu of the passenger's cabin, and offers all "
            + "diets that the passenger needs.", """
            good cabin a 9;cabin b 9;meal x menu a 1 1 1 offers ab;meal y menu b 1 1 1 offers ab;meal z special 1 1 offers abc;meal w special 1 1;guest a needs a;guest a needs ab;guest a needs abc;guest a needs d;guest b needs b;guest a; = 6
            passenger 0 4 = 5
            passenger 1 4 = 5
            passenger 2 4 = 4
            passenger 3 4 = 0
            passenger 4 4 = 6
            passenger 5 4 = 13
            """);
    }

    private static void order() {
        Section s = Section.of("Description 2");
        s.says("The order of a flight tells a number of units for each meal. It is always reckoned anew from the "
            + "passengers that there are:", """
            good cabin a 9;meal x menu a 1 1 1;meal y special 1 1 offers a;guest a; = 1
            meal 0 6 = 1
            meal 1 6 = 0
            board 0 0 -1 = 1
            meal 0 6 = 2
            setNeeds 0 1 = 0
            meal 0 6 = 1
            meal 1 6 = 1
            leave 1 = 1
            meal 0 6 = 0
            undo = 2
            meal 0 6 = 1
            leave 0 = 1
            meal 1 6 = 0
            leave 0 = 0
            count 8 = 0
            """);
        s.says("- For each special passenger, one unit of the cheapest meal that suits (of several the one with the lowest "
            + "number), if there is one.", """
            good cabin a 9;meal w special 1 9 offers a;meal x special 1 8 offers ab;meal y menu a 1 1 8 offers a;meal z special 1 7 offers b;guest a needs a;guest a needs a;guest a needs b;guest a needs c; = 4
            meal 0 6 = 0
            meal 1 6 = 2
            meal 2 6 = 0
            meal 3 6 = 1
            count 8 = 3
            // of a meal that plain passengers get, too
            good cabin a 9 50;meal x menu a 1 1 1 offers a;guests a 2;guest a needs a;guest a needs a; = 4
            meal 0 6 = 5
            """);
        s.says("- For each cabin with n plain passengers, n greater than 0, and with a menu, "
            + "(n * (100 + spare) + 99) / 100 units, rounded down,", """
            good cabin a 40 50;cabin b 9 50;cabin c 9;meal x menu a 1 1 1;meal y menu b 1 1 1;meal z special 1 1;guests a 1;guests c 3;guest b needs a; = 5
            // a: 2.49; b has no plain passenger, c has no menu
            meal 0 6 = 2
            meal 1 6 = 0
            meal 2 6 = 0
            board 0 0 -1 = 5
            // 3.99
            meal 0 6 = 3
            good cabin a 9 1;meal x menu a 1 1 1;guests a 1; = 1
            // 2.00
            meal 0 6 = 2
            good cabin a 9;meal x menu a 1 1 1;guests a 1; = 1
            // 1.99
            meal 0 6 = 1
            good cabin a 40 50;meal x menu a 1 1 1;guests a 40; = 40
            // 60.99
            meal 0 6 = 60
            good cabin a 40 49;meal x menu a 1 1 1;guests a 40; = 40
            // 60.59
            meal 0 6 = 60
            good cabin a 40 47;meal x menu a 1 1 1;guests a 40; = 40
            // 59.79
            meal 0 6 = 59
            """);
        s.says("are divided among the meals of its menu in proportion to their shares: each first gets "
            + "units * share / (sum of the shares), rounded down;", """
            good cabin a 40 50;cabin b 9;meal x menu a 99 1 1;meal y menu a 1 1 1;meal z menu b 50 1 1;meal s special 1 1;guests a 40; = 40
            // 59.4 and 0.6
            meal 0 6 = 59
            meal 1 6 = 1
            meal 2 6 = 0
            meal 3 6 = 0
            good cabin a 40;meal x menu a 3 1 1;meal y menu a 1 1 1;guests a 8; = 8
            meal 0 6 = 6
            meal 1 6 = 2
            """);
        String twelve = "good cabin a 40;" + "meal NAME menu a 1 1 1;".repeat(12) + "guests a 11; = 11\n";
        for (char name = 'a'; name <= 'l'; name++) {
            twelve = twelve.replaceFirst("NAME", "" + name);
        }
        s.says("those that are left are given one by one to the meals with the greatest remainders of this division, of "
            + "equal ones to those with the lowest numbers.", """
            good cabin a 9;meal x menu a 1 1 1;meal y menu a 2 1 1;meal z menu a 4 1 1;guests a 4; = 4
            // 4/7, 8/7, 16/7
            meal 0 6 = 1
            meal 1 6 = 1
            meal 2 6 = 2
            good cabin a 9;meal x menu a 2 1 1;meal y menu a 3 1 1;meal z menu a 3 1 1;guests a 5; = 5
            // 10/8, 15/8, 15/8
            meal 0 6 = 1
            meal 1 6 = 2
            meal 2 6 = 2
            good cabin a 9;meal x menu a 1 1 1;meal y menu a 1 1 1;meal z menu a 1 1 1;guests a 5; = 5
            meal 0 6 = 2
            meal 1 6 = 2
            meal 2 6 = 1
            good cabin a 9;cabin b 9;meal w menu b 5 1 1;meal x menu b 4 1 1;meal y menu a 1 1 1;meal z menu a 2 1 1;guests a 1;guests b 1; = 2
            // 5/9 and 4/9 in b; 1/3 and 2/3 in a, where the remainders are smaller
            meal 0 6 = 1
            meal 1 6 = 0
            meal 2 6 = 0
            meal 3 6 = 1
            """ + twelve + """
            meal 0 6 = 1
            meal 10 6 = 1
            meal 11 6 = 0
            count 8 = 11
            """);
    }

    private static void time() {
        Section s = Section.of("Description 3");
        s.says("A flight begins with some minutes left until departure.", """
            good time 7 3; = 0
            count 5 = 7
            good time 1 0; = 0
            count 5 = 1
            good time 999 0; = 0
            count 5 = 999
            """);
        s.says("While more minutes are left than the closing time, the phase is 1 (open), then 2 (closed); behind the "
            + "service it is 3 (served).", """
            good time 3 1; = 0
            count 0 = 1
            advance 1 = 0
            count 0 = 1
            advance 1 = 0
            count 0 = 2
            advance 1 = 0
            count 0 = 2
            serve = 0
            count 0 = 3
            good time 5 5; = 0
            count 0 = 2
            good time 1 999; = 0
            count 0 = 2
            good time 1 0; = 0
            count 0 = 1
            advance 1 = 0
            count 0 = 2
            undo = 0
            serve = 0
            count 0 = 3
            """);
        s.says("Without a flight it is 0.", """
            count 0 = 0
            error 1 ^$
            count 0 = 0
            keep 0 = 0
            restore 0 = 0
            count 0 = 0
            """);
    }

    private static void topUps() {
        Section s = Section.of("Description 3");
        s.says("Top-ups can be asked for in the phases 1 and 2: some units of one meal arrive when so many minutes have "
            + "passed as the lead time tells (at once if this is 0).", """
            good time 9 5;lead 2;cabin a 1;meal x special 1 1;trolley a 40; = 0
            topUp 0 3 = 1
            advance 1 = 0
            count 6 = 1
            count 7 = 0
            advance 1 = 0
            count 6 = 0
            count 7 = 3
            advance 3 = 0
            count 0 = 2
            topUp 0 1 = 1
            advance 4 = 0
            count 7 = 4
            serve = 0
            topUp 0 1 = refused 1
            good time 9 5;lead 0;cabin a 1;meal x special 1 1;trolley a 40; = 0
            topUp 0 5 = 0
            count 6 = 0
            count 7 = 5
            """);
        s.says("At most 6 top-ups are on their way.", "good lead 1;cabin a 1;meal x special 1 1;trolley a 40; = 0\n"
            + SIX_TOP_UPS + """
            count 6 = 6
            topUp 0 1 = refused 5
            advance 1 = 0
            topUp 0 1 = 1
            """);
        s.says("When a top-up arrives, its units are stored one by one; units that cannot be stored are sent back.", """
            good lead 1;cabin a 1;meal x special 2 1;trolley a 3;trolley a 4; = 0
            topUp 0 4 = 1
            advance 1 = 1
            held 0 0 = 1
            held 1 0 = 2
            topUp 0 99 = 1
            advance 1 = 99
            count 7 = 3
            reason = 0
            unload 0 2 = 1
            topUp 0 2 = 1
            advance 1 = 0
            count 7 = 3
            """);
        s.says("Several top-ups that arrive at the same minute arrive in the order in which they were asked for.", """
            good lead 1;cabin a 1;meal x special 1 1;meal y special 2 1;trolley a 3; = 0
            topUp 1 1 = 1
            topUp 0 2 = 2
            advance 1 = 1
            held 0 0 = 1
            held 0 1 = 1
            undo = 2
            undo = 1
            undo = 0
            topUp 0 2 = 1
            topUp 1 1 = 2
            advance 1 = 1
            held 0 0 = 2
            held 0 1 = 0
            """);
    }

    private static void matching() {
        Section s = Section.of("Description 4");
        s.says("Special passengers are matched first: each gets at most one unit of a meal that is loaded and suits.", """
            good cabin a 9;meal x menu a 1 1 1 offers a;trolley a 9;guest a wish x;guest a needs a;guest a needs b; = 3
            outlook 0 = 0
            mealFor 1 = -1
            store 0 1 = 1
            mealFor 0 = -1
            mealFor 1 = 0
            mealFor 2 = -1
            store 0 8 = 9
            mealFor 0 = 0
            outlook 0 = 1
            outlook 1 = 2
            outlook 3 = 7
            """);
        s.says("As many as possible get one;", """
            good cabin a 9;meal x special 1 1 offers abc;meal y special 1 1 offers ac;meal z special 1 1 offers c;trolley a 9;guest a needs c;guest a needs a;guest a needs b;guest a needs b; = 4
            store 0 1 = 1
            store 1 1 = 1
            store 2 1 = 1
            outlook 0 = 3
            mealFor 0 = 2
            mealFor 1 = 1
            mealFor 2 = 0
            mealFor 3 = -1
            """);
        s.says("of all ways to match as many, the first one is taken: the passengers are compared by their numbers, and a "
            + "passenger with a meal goes before one without, of two meals the one with the lower number.", """
            good cabin a 9;meal x special 1 1 offers ab;meal y special 1 1 offers ab;trolley a 9;guest a needs c;guest a needs a;guest a needs b;guest a needs ab; = 4
            store 1 1 = 1
            mealFor 0 = -1
            mealFor 1 = 1
            mealFor 2 = -1
            store 0 1 = 1
            mealFor 1 = 0
            mealFor 2 = 1
            mealFor 3 = -1
            outlook 0 = 2
            // the first takes x for itself, and y is not for the second
            good cabin a 9;meal x special 1 5 offers ab;meal y special 1 7 offers ac;trolley a 9;guest a needs a;guest a needs b;guest a needs c; = 3
            store 0 1 = 1
            store 1 1 = 1
            mealFor 0 = 0
            mealFor 1 = -1
            mealFor 2 = 1
            outlook 0 = 2
            """);
        s.says("of all ways to match as many, the first one is taken:", """
            good cabin a 9;meal w special 1 5 offers abc;meal x special 1 5 offers ab;meal y special 1 7 offers bc;meal z special 1 7 offers cd;trolley a 9;guest a needs c;guest a needs b;guest a needs a;guest a needs ab;guest a needs d; = 5
            store 0 1 = 1
            store 1 1 = 1
            store 2 1 = 1
            store 3 1 = 1
            // with x for passenger 1 there would be none for 2 and 3
            outlook 0 = 4
            mealFor 0 = 0
            mealFor 1 = 2
            mealFor 2 = 1
            mealFor 3 = -1
            mealFor 4 = 3
            """);
        s.says("of two meals the one with the lower number.", """
            good cabin a 9;trolley a 9;meal u special 1 1 offers abcde;meal v special 1 1 offers acd;meal w special 1 1 offers cde;meal x special 1 1 offers acde;meal y special 1 1 offers a;meal z special 1 1 offers ab; = 0
            board 0 1 -1 = 0
            board 0 1 -1 = 1
            board 0 16 -1 = 2
            board 0 17 -1 = 3
            board 0 8 -1 = 4
            board 0 17 -1 = 5
            store 0 2 = 2
            store 1 1 = 1
            store 2 2 = 2
            store 4 1 = 1
            store 5 2 = 2
            mealFor 0 = 1
            mealFor 1 = 4
            mealFor 2 = 2
            mealFor 3 = 0
            mealFor 4 = 2
            mealFor 5 = 0
            """);
        s.says("each gets at most one unit of a meal that is loaded", """
            // u is left for the last, as the only t is the fourth's
            good cabin a 9;trolley a 9;meal s special 1 1 offers ae;meal t special 1 1 offers adf;meal u special 1 1 offers df;meal v special 1 1 offers bcdf;meal w special 1 1 offers acef;meal x special 1 1 offers ce;meal y special 1 1 offers bf;guest a needs a;guest a needs b;guest a needs c;guest a needs d;guest a needs e;guest a needs f; = 6
            store 0 1 = 1
            store 1 1 = 1
            store 2 2 = 2
            store 3 1 = 1
            store 4 1 = 1
            store 6 1 = 1
            mealFor 0 = 0
            mealFor 1 = 6
            mealFor 2 = 3
            mealFor 3 = 1
            mealFor 4 = 4
            mealFor 5 = 2
            outlook 3 = 1
            """);
        s.says("the passengers are compared by their numbers,", """
            good cabin a 9;trolley a 9;meal t special 1 1 offers ab;meal u special 1 1 offers abc;meal v special 1 1 offers acde;meal w special 1 1 offers ac;meal x special 1 1 offers acd;meal y special 1 1 offers acde;meal z special 1 1 offers acd;guest a needs a;guest a needs a;guest a needs d;guest a needs b;guest a needs b;guest a needs d;guest a needs b;guest a needs b; = 8
            store 0 1 = 1
            store 1 1 = 1
            store 2 1 = 1
            store 3 1 = 1
            store 4 1 = 1
            store 5 1 = 1
            store 6 1 = 1
            // t and u are for those who need b
            mealFor 0 = 2
            mealFor 1 = 3
            mealFor 2 = 4
            mealFor 3 = 0
            mealFor 4 = 1
            mealFor 5 = 5
            mealFor 6 = -1
            mealFor 7 = -1
            outlook 0 = 6
            """);
    }

    private static void plainPassengers() {
        Section s = Section.of("Description 4");
        s.says("Then the plain passengers are served, by their numbers: each gets a unit of the wish, if there is a wish "
            + "and a unit of it is left;", """
            good cabin a 9;meal x menu a 1 1 1 offers a;meal y menu a 1 1 1;trolley a 9;guest a wish x;guest a wish x;guest a wish x;guest a needs a; = 4
            store 0 2 = 2
            store 1 5 = 5
            // the special passenger takes one x, the first plain one the other
            mealFor 3 = 0
            mealFor 0 = 0
            mealFor 1 = 1
            mealFor 2 = 1
            outlook 5 = 1
            store 0 1 = 3
            mealFor 1 = 0
            mealFor 2 = 1
            outlook 5 = 2
            """);
        s.says("otherwise a unit of the meal on the menu of the cabin of which the most units are left (of several the one "
            + "with the lowest number), if there is one.", """
            good cabin a 9;cabin b 9;meal w special 1 1;meal v menu b 1 1 1;meal x menu a 1 1 1;meal y menu a 1 1 1;trolley a 20;trolley b 9;guest a;guest a wish x;guest a;guest a;guest a; = 5
            store 0 9 = 9
            store 1 8 = 8
            mealFor 0 = -1
            store 3 2 = 2
            store 2 2 = 2
            // x and y: 2 and 2, then 1 and 2 (the wish), 0 and 2, 0 and 1
            mealFor 0 = 2
            mealFor 1 = 2
            mealFor 2 = 3
            mealFor 3 = 3
            mealFor 4 = -1
            store 3 1 = 3
            // 2 and 3, 2 and 2 (the wish), 1 and 2, 1 and 1
            mealFor 0 = 3
            mealFor 1 = 2
            mealFor 2 = 3
            mealFor 3 = 2
            mealFor 4 = 3
            """);
        s.says("Passengers who get no meal are hungry.", """
            good cabin a 9;meal x menu a 1 1 1 offers a;trolley a 9;guest a;guest a needs b;guest a needs a; = 3
            outlook 2 = 3
            store 0 1 = 1
            outlook 2 = 2
            store 0 1 = 2
            outlook 2 = 1
            store 0 1 = 3
            outlook 2 = 1
            """);
    }

    private static void accounts() {
        Section s = Section.of("Description 4");
        s.says("With the service, top-ups that are on their way are lost, and the flight is closed for ever: each unit that "
            + "is loaded is eaten or wasted.", """
            good cabin a 9;meal x menu a 1 1 7;trolley a 9;guest a; = 1
            store 0 3 = 3
            topUp 0 2 = 1
            serve = 1
            count 6 = 0
            count 7 = 3
            account 0 = 3
            account 1 = 1
            account 2 = 2
            store 0 1 = refused 1
            topUp 0 1 = refused 1
            serve = refused 1
            advance 1 = refused 1
            """);
        s.says("The accounts are the sums over all services since the beginning: units that were loaded, eaten and wasted, "
            + "the cost of those that were wasted, hungry passengers, and services.", """
            good cabin a 9;meal x menu a 1 1 7;meal y special 2 9999;trolley a 9;guests a 2; = 2
            store 0 3 = 3
            store 1 2 = 2
            serve = 2
            account 0 = 5
            account 1 = 2
            account 2 = 3
            account 3 = 20005
            account 4 = 0
            account 5 = 1
            good cabin a 9;meal x menu a 1 1 7;trolley a 9;guests a 2; = 2
            store 0 1 = 1
            serve = 1
            account 0 = 6
            account 1 = 3
            account 2 = 3
            account 3 = 20005
            account 4 = 1
            account 5 = 2
            """);
    }

    private static void reasons() {
        Section s = Section.of("Description 6");
        s.says("1 there is no flight, or it was served;", """
            loadOrder = refused 1
            advance 1 = refused 1
            serve = refused 1
            good cabin a 9;cabin b 9;meal x special 1 1;trolley a 9;guest a; = 1
            store 0 1 = 1
            serve = 0
            board 0 0 -1 = refused 1
            change 0 1 = refused 1
            leave 0 = refused 1
            setNeeds 0 1 = refused 1
            loadOrder = refused 1
            store 0 1 = refused 1
            unload 0 1 = refused 1
            topUp 0 1 = refused 1
            advance 1 = refused 1
            serve = refused 1
            """);
        s.says("2 the flight is closed;", """
            good time 31 30;cabin a 9;meal x special 1 1;trolley a 9; = 0
            loadOrder = 0
            store 0 1 = 1
            advance 1 = 0
            loadOrder = refused 2
            store 0 1 = refused 2
            """);
        s.says("3 a unit cannot be stored;", """
            good cabin a 9;meal x menu a 1 2 1;trolley a 5;guests a 3; = 3
            loadOrder = refused 3
            store 0 3 = refused 3
            store 0 2 = 2
            store 0 1 = refused 3
            loadOrder = refused 3
            """);
        s.says("4 not so many units are loaded;", """
            good cabin a 9;meal x special 1 1;meal y special 1 1;trolley a 9; = 0
            unload 0 1 = refused 4
            store 0 2 = 2
            store 1 3 = 3
            unload 0 3 = refused 4
            unload 0 2 = 0
            """);
        s.says("5 there are 6 top-ups on their way;", "good cabin a 9;meal x special 1 1;trolley a 9; = 0\n"
            + SIX_TOP_UPS + "topUp 0 1 = refused 5\n");
        s.says("6 fewer minutes are left than the lead time;", """
            good time 9 0;lead 5;cabin a 9;meal x special 1 1;trolley a 9; = 0
            advance 4 = 0
            topUp 0 1 = 1
            advance 1 = 0
            topUp 0 1 = refused 6
            good time 1 0;lead 2;cabin a 9;meal x special 1 1;trolley a 9; = 0
            topUp 0 1 = refused 6
            """);
        s.says("7 fewer minutes are left than are to pass;", """
            good time 9 0; = 0
            advance 10 = refused 7
            advance 999 = refused 7
            advance 9 = 0
            advance 1 = refused 7
            """);
        s.says("8 there are 40 passengers;", """
            good cabin a 40;cabin b 9;guests a 38; = 38
            board 1 0 -1 = 38
            board 0 0 -1 = 39
            board 0 0 -1 = refused 8
            board 1 255 -1 = refused 8
            """);
        s.says("9 the cabin has no free seat.", """
            good cabin a 2;cabin b 2;guests a 1;guests b 1; = 2
            change 1 0 = 1
            board 0 0 -1 = refused 9
            board 1 0 -1 = 2
            change 2 0 = refused 9
            """);
    }

    private static void severalReasons() {
        Section s = Section.of("Description 6");
        s.says("An act that cannot be is refused by an IllegalStateException; the method reason() tells why, by the first of "
            + "these numbers that applies:", """
            // 2 ahead of 3
            good time 30 30;cabin a 9;meal x menu a 1 1 1;trolley a 1;guests a 2; = 2
            store 0 2 = refused 2
            loadOrder = refused 2
            // 1 ahead of 2 and 3, of 4, of 6, of 7
            serve = 0
            store 0 2 = refused 1
            loadOrder = refused 1
            unload 0 1 = refused 1
            topUp 0 1 = refused 1
            advance 999 = refused 1
            // 8 ahead of 9, 1 ahead of both
            good cabin a 1;cabin b 39;guests a 1;guests b 39; = 40
            board 0 0 -1 = refused 8
            change 1 0 = refused 9
            serve = 0
            board 0 0 -1 = refused 1
            change 1 0 = refused 1
            // 5 ahead of 6, 1 ahead of both
            good time 9 0;lead 9;cabin a 9;meal x special 1 1; = 0
            """ + SIX_TOP_UPS + """
            advance 1 = 0
            topUp 0 1 = refused 5
            serve = 0
            topUp 0 1 = refused 1
            """);
        s.says("A call that throws changes nothing, unless its description says otherwise.", """
            // each line that throws is compared with an object without this call
            good time 50 30;lead 5;cabin a 3;cabin b 1;meal x menu a 1 2 1 offers a;meal y special 1 1;trolley a 5;guest a wish x;guest b; = 2
            store 0 1 = 1
            topUp 1 2 = 1
            keep 1 = 1
            writes 0 = 1xx
            feeds lead 5; = 20
            store 0 2 = refused 3
            loadOrder = 0
            unload 0 2 = refused 4
            board 1 3 -1 = refused 9
            change 0 1 = refused 9
            advance 51 = refused 7
            advance 20 = 0
            store 1 1 = refused 2
            loadOrder = refused 2
            serve = 1
            leave 0 = refused 1
            setNeeds 0 3 = refused 1
            load 21 = throws.IllegalArgumentException
            restore 0 = throws.NoSuchElementException
            keep 2 = throws.IllegalArgumentException
            writeTrolley 1 = throws.NoSuchElementException
            """);
    }

    private static void severalExceptions() {
        Section s = Section.of("Description 6");
        s.says("If several exceptions apply to a call, the one that is listed first in its description is thrown.", """
            good cabin a 1;cabin b 1;meal x menu a 1 1 1;trolley a 1;guest a; = 1
            cabin 2 8 = throws.NoSuchElementException
            meal 1 10 = throws.NoSuchElementException
            passenger 1 6 = throws.NoSuchElementException
            trolley 1 4 = throws.NoSuchElementException
            topUpAt 0 3 = throws.IndexOutOfBoundsException
            restore 2 = throws.IllegalArgumentException
            // none of them can be, too, as the flight was served
            serve = 0
            board 2 256 0 = throws.NoSuchElementException
            board 0 256 1 = throws.NoSuchElementException
            board 1 0 -2 = throws.NoSuchElementException
            board 0 256 -1 = throws.IllegalArgumentException
            board 1 0 0 = throws.IllegalArgumentException
            change 1 2 = throws.NoSuchElementException
            change 0 2 = throws.NoSuchElementException
            change 1 0 = throws.NoSuchElementException
            change 0 0 = throws.IllegalArgumentException
            leave 1 = throws.NoSuchElementException
            setNeeds 1 256 = throws.NoSuchElementException
            setNeeds 0 256 = throws.IllegalArgumentException
            store 1 0 = throws.NoSuchElementException
            store 0 0 = throws.IllegalArgumentException
            unload 1 100 = throws.NoSuchElementException
            unload 0 100 = throws.IllegalArgumentException
            topUp 1 0 = throws.NoSuchElementException
            topUp 0 0 = throws.IllegalArgumentException
            advance 0 = throws.IllegalArgumentException
            reason = 0
            """);
    }

    private static void constants() {
        Section s = Section.of("Description 6");
        s.says("The constants: - NONE = -1: There is none.", """
            good cabin a 9;meal x special 1 1;guest a; = 1
            meal 0 0 = -1
            passenger 0 2 = -1
            passenger 0 3 = -1
            passenger 0 5 = 0
            mealFor 0 = -1
            setNeeds 0 1 = 0
            passenger 0 5 = -1
            board 0 0 -1 = 1
            """);
        if (MealLoader.NONE != -1) {
            Script.tell("NONE is " + MealLoader.NONE);
        }
        s.names("The constructor and the methods follow, a promise each: the signature, then what it does.");
    }
}
