/** The description, 5, sentence by sentence: the text, its ranges, its errors and their positions. */
final class TextSentences {
    private static final String NAMES =
        "cabin a 9;cabin b 5;meal x menu a 1 1 1 offers a;meal y menu b 1 1 1;meal z special 1 1;";
    private static final String FOUR_CABINS = "cabin a 40;cabin b 9;cabin c 9;cabin d 9;";
    private static final String FORTY_GUESTS = FOUR_CABINS + "guests b 9;guests a 30;guest c;";

    static void run() {
        timesAndCabins();
        meals();
        trolleysAndGuests();
        ranges();
        rangesOfMeals();
        latestCounts();
        namesAndDiets();
        tokens();
        spaces();
        leastPosition();
        syntax();
        otherBytes();
        names();
        limits();
        seats();
    }

    /** Error lines of a code, each behind the statements that tell the names. */
    private static String errors(int code, String texts) {
        StringBuilder lines = new StringBuilder();
        for (String text : texts.split("\n")) {
            lines.append("error ").append(code).append(' ').append(NAMES).append(text).append('\n');
        }
        return lines.toString();
    }

    private static void timesAndCabins() {
        Section s = Section.of("Description 5");
        s.says("flight = { statement \";\" } ({ X } means any number of X, [ X ] that X may be missing, | separates "
            + "alternatives)", """
            good = 0
            count 0 = 1
            good lead 1; = 0
            good lead 1;lead 2;time 5 5; = 0
            error 1 ^;
            error 1 lead 1;^;
            error 1 lead 1^
            error 1 lead 1 ^lead 2;
            error 1 lead 1;lead 2^
            error 1 ^5;
            error 1 ^foo 5;
            """);
        s.says("statement = \"time\" MINUTES CLOSING", "good time 5 4; = 0\ncount 5 = 5\ncount 10 = 4\n" + errors(1, """
            time^
            time ^;
            time ^x 4;
            time 5^
            time 5 ^;
            time 5 ^x;
            time 5 4^
            time 5 4 ^4;
            time 5 4 ^x;
            ^times 5 4;
            ^tim 5 4;"""));
        s.says("| \"lead\" LEAD", "good lead 5; = 0\ncount 11 = 5\n" + errors(1, """
            lead^
            lead ^;
            lead ^x;
            lead 5^
            lead 5 ^5;
            lead 5 ^x;
            ^leads 5;
            ^lea 5;"""));
        s.says("| \"cabin\" NAME SEATS [ SPARE ]", "good cabin c 5;cabin d 5 6; = 0\ncabin 0 1 = 0\ncabin 1 1 = 6\n"
            + errors(1, """
            cabin^
            cabin ^;
            cabin ^5 5;
            cabin c^
            cabin c ^;
            cabin c ^c;
            cabin c 5^
            cabin c 5 ^c;
            cabin c 5 6^
            cabin c 5 6 ^7;
            cabin c 5 6 ^c;
            ^cabins c 5;"""));
    }

    private static void meals() {
        Section s = Section.of("Description 5");
        s.says("| \"meal\" NAME ( \"special\" | \"menu\" CABIN SHARE ) SIZE COST [ \"offers\" DIETS ]", """
            good cabin c 5;meal v special 2 3;meal w menu c 4 1 5 offers c; = 0
            meal 0 0 = -1
            meal 0 2 = 2
            meal 0 3 = 3
            meal 0 4 = 0
            meal 1 0 = 0
            meal 1 1 = 4
            meal 1 2 = 1
            meal 1 3 = 5
            meal 1 4 = 4
            """ + errors(1, """
            meal^
            meal ^;
            meal ^5 special 1 1;
            meal v^
            meal v ^;
            meal v ^5;
            meal v ^offers a;
            meal v special^
            meal v special ^;
            meal v special ^x;
            meal v special 1^
            meal v special 1 ^;
            meal v special 1 ^offers a;
            meal v special 1 1^
            meal v special 1 1 ^1;
            meal v special 1 1 ^needs a;
            meal v special 1 1 offers^
            meal v special 1 1 offers ^;
            meal v special 1 1 offers ^1;
            meal v special 1 1 offers a^
            meal v special 1 1 offers a ^a;
            meal v special 1 1 offers a ^1;""") + errors(1, """
            meal v menu^
            meal v menu ^;
            meal v menu ^5 1 1 1;
            meal v menu a^
            meal v menu a ^;
            meal v menu a ^x;
            meal v menu a 1^
            meal v menu a 1 ^;
            meal v menu a 1 1^
            meal v menu a 1 1 ^;
            meal v menu a 1 1 1^
            meal v menu a 1 1 1 ^1;
            meal v menu a 1 1 1 ^offer a;
            ^meals v special 1 1;
            meal v ^specia 1 1;
            meal v ^menus a 1 1 1;"""));
    }

    private static void trolleysAndGuests() {
        Section s = Section.of("Description 5");
        s.says("| \"trolley\" CABIN SLOTS", "good " + NAMES + "trolley b 7; = 0\ntrolley 0 0 = 1\ntrolley 0 1 = 7\n"
            + errors(1, """
            trolley^
            trolley ^;
            trolley ^5 5;
            trolley a^
            trolley a ^;
            trolley a ^a;
            trolley a 5^
            trolley a 5 ^5;
            trolley a 5 ^a;
            ^trolleys a 5;"""));
        s.says("| \"guests\" CABIN COUNT", "good " + NAMES + "guests b 5; = 5\ncabin 1 2 = 5\n" + errors(1, """
            guests^
            guests ^;
            guests ^5 5;
            guests a^
            guests a ^;
            guests a ^needs a;
            guests a 5^
            guests a 5 ^5;
            guests a 5 ^needs a;
            guests a 5 ^wish x;
            ^guestss a 5;"""));
        s.says("| \"guest\" CABIN [ \"needs\" DIETS ] [ \"wish\" MEAL ]", "good " + NAMES
            + "guest a;guest a needs a;guest a wish x;guest a needs b wish x; = 4\n" + """
            passenger 0 1 = 0
            passenger 0 2 = -1
            passenger 1 1 = 1
            passenger 1 2 = -1
            passenger 2 1 = 0
            passenger 2 2 = 0
            passenger 3 1 = 2
            passenger 3 2 = 0
            """ + errors(1, """
            guest^
            guest ^;
            guest ^5;
            guest a^
            guest a ^5;
            guest a ^offers a;
            guest a needs^
            guest a needs ^;
            guest a needs ^5;
            guest a needs a^
            guest a needs a ^needs b;
            guest a needs a ^5;
            guest a wish^
            guest a wish ^;
            guest a wish ^5;
            guest a wish x^
            guest a wish x ^needs a;
            guest a wish x ^wish x;
            guest a wish x ^5;"""));
    }

    private static void ranges() {
        Section s = Section.of("Description 5");
        s.says("MINUTES is 1 to 999 (120 at first),", """
            good = 0
            count 5 = 120
            good time 1 0; = 0
            count 5 = 1
            good time 999 0; = 0
            count 5 = 999
            error 2 time ^0 0;
            error 2 time ^1000 0;
            """);
        s.says("CLOSING 0 to 999 (30 at first),", """
            good = 0
            count 10 = 30
            good time 1 0; = 0
            count 10 = 0
            good time 1 999; = 0
            count 10 = 999
            error 2 time 1 ^1000;
            """);
        s.says("LEAD 0 to 99 (10 at first),", """
            good = 0
            count 11 = 10
            good lead 0; = 0
            count 11 = 0
            good lead 99; = 0
            count 11 = 99
            error 2 lead ^100;
            """);
        s.says("SEATS 1 to 40,", """
            good cabin a 1;cabin b 40; = 0
            cabin 0 0 = 1
            cabin 1 0 = 40
            error 2 cabin a ^0;
            error 2 cabin a ^41;
            """);
        s.says("SPARE 0 to 50 (0 if it is missing),", """
            good cabin a 1 50;cabin b 1 0;cabin c 1; = 0
            cabin 0 1 = 50
            cabin 1 1 = 0
            cabin 2 1 = 0
            // where another flight had spares
            good cabin a 1 50;cabin b 1 50;cabin c 1 50; = 0
            good cabin a 1;cabin b 1;cabin c 1; = 0
            cabin 0 1 = 0
            error 2 cabin a 1 ^51;
            """);
    }

    private static void rangesOfMeals() {
        Section s = Section.of("Description 5");
        s.says("SHARE 1 to 99,", """
            good cabin a 1;meal x menu a 1 1 1;meal y menu a 99 1 1; = 0
            meal 0 1 = 1
            meal 1 1 = 99
            error 2 cabin a 1;meal x menu a ^0 1 1;
            error 2 cabin a 1;meal x menu a ^100 1 1;
            """);
        s.says("SIZE 1 to 3,", """
            good cabin a 1;meal x special 1 1;meal y menu a 1 3 1; = 0
            meal 0 2 = 1
            meal 1 2 = 3
            error 2 meal x special ^0 1;
            error 2 meal x special ^4 1;
            error 2 cabin a 1;meal x menu a 1 ^0 1;
            error 2 cabin a 1;meal x menu a 1 ^4 1;
            """);
        s.says("COST 1 to 9999,", """
            good meal x special 1 1;meal y special 1 9999; = 0
            meal 0 3 = 1
            meal 1 3 = 9999
            error 2 meal x special 1 ^0;
            // 10000 has 5 digits
            error 1 meal x special 1 ^10000;
            """);
        s.says("SLOTS 1 to 40,", """
            good cabin a 1;trolley a 1;trolley a 40; = 0
            trolley 0 1 = 1
            trolley 1 1 = 40
            error 2 cabin a 1;trolley a ^0;
            error 2 cabin a 1;trolley a ^41;
            """);
        s.says("COUNT 1 to 40 (so many plain passengers without a wish).", """
            good cabin a 40;meal x menu a 1 1 1;guests a 1; = 1
            passenger 0 0 = 0
            passenger 0 1 = 0
            passenger 0 2 = -1
            good cabin a 40;meal x menu a 1 1 1;guests a 40; = 40
            passenger 39 1 = 0
            passenger 39 2 = -1
            cabin 0 3 = 0
            error 2 cabin a 40;guests a ^0;
            error 2 cabin a 40;guests a ^41;
            """);
    }

    private static void latestCounts() {
        Section s = Section.of("Description 5");
        s.says("The last \"time\" and the last \"lead\" count.", """
            good lead 3;time 5 1;lead 99;time 999 998;lead 4;time 7 6; = 0
            count 5 = 7
            count 10 = 6
            count 11 = 4
            // with the first flight's at an end
            good cabin a 1; = 0
            count 5 = 120
            count 10 = 30
            count 11 = 10
            """);
        s.says("At the beginning nothing is loaded, and nothing is on its way.", """
            good cabin a 1;meal x special 1 1;trolley a 9; = 0
            store 0 4 = 4
            topUp 0 2 = 1
            good cabin a 1;meal x special 1 1;trolley a 9; = 0
            count 6 = 0
            count 7 = 0
            held 0 0 = 0
            trolley 0 2 = 9
            advance 10 = 0
            count 7 = 0
            """);
    }

    private static void namesAndDiets() {
        Section s = Section.of("Description 5");
        s.says("NAME, CABIN, MEAL and DIETS are words of any kind (also such as cabin or offers);", """
            good cabin cabin 5;cabin guests 5;cabin menu 5;cabin needs 5;meal offers menu cabin 1 1 1 offers bad;meal menu menu menu 1 1 1;meal wish menu needs 1 1 1;meal needs menu needs 1 1 1;meal time special 1 1 offers deaf;meal meal special 1 1;meal lead special 1 1;trolley cabin 5;trolley menu 6;guests guests 2;guest needs needs a wish wish;guest needs wish needs;guest cabin wish offers;guest menu needs fed; = 6
            meal 0 4 = 11
            meal 1 0 = 2
            meal 4 4 = 57
            trolley 1 0 = 2
            passenger 2 1 = 1
            passenger 2 2 = 2
            passenger 3 1 = 0
            passenger 3 2 = 3
            passenger 5 1 = 56
            """);
        s.says("a NAME has 1 to 6 letters (a cabin and a meal may have the same),", """
            good cabin a 5;cabin abcdef 5;cabin z 5;meal a special 1 1;meal zyxwvu special 1 1;meal abcdef special 1 1;trolley abcdef 9;trolley a 9; = 0
            trolley 0 0 = 1
            trolley 1 0 = 0
            store 2 1 = 1
            writes 0 = 1xabcdef
            error 1 cabin ^abcdefg 5;
            error 1 meal ^abcdefg special 1 1;
            error 1 cabin ^5 5;
            """);
        s.says("CABIN is the name of a cabin and MEAL that of a meal that was told before;", """
            error 3 trolley ^a 5;cabin a 5;
            error 3 guest ^a;cabin a 5;
            error 3 guests ^a 1;cabin a 5;
            error 3 meal x menu ^a 1 1 1;cabin a 5;
            error 3 cabin a 5;guest a wish ^x;meal x menu a 1 1 1;
            good cabin a 5;meal x menu a 1 1 1;trolley a 5;guest a wish x;guests a 1; = 2
            // what another flight told does not count
            error 3 trolley ^a 5;
            error 3 cabin a 5;guest a wish ^x;
            """);
        s.says("DIETS has 1 to 8 letters a to h, each at most once.", """
            good cabin a 5;meal x special 1 1 offers a;meal y special 1 1 offers hgfedcba;guest a needs h;guest a needs abcdefgh; = 2
            meal 0 4 = 1
            meal 1 4 = 255
            passenger 0 1 = 128
            passenger 1 1 = 255
            error 1 meal x special 1 1 offers ^;
            error 1 meal x special 1 1 offers ^i;
            error 1 meal x special 1 1 offers ^hi;
            error 1 meal x special 1 1 offers ^aa;
            error 1 meal x special 1 1 offers ^abcdefgha;
            error 1 cabin a 5;guest a needs ^;
            error 1 cabin a 5;guest a needs ^z;
            error 1 cabin a 5;guest a needs ^hgfedcbah;
            """);
    }

    private static void tokens() {
        Section s = Section.of("Description 5");
        s.says("A token is a word (a run of letters a to z), a number (a run of digits), or the sign ; and is as long as "
            + "possible.", """
            good cabin az9;trolley az8;meal zz special1 2;guests az3;lead0;time19 5; = 3
            cabin 0 0 = 9
            trolley 0 1 = 8
            meal 0 2 = 1
            meal 0 3 = 2
            count 5 = 19
            count 11 = 0
            good cabin a 1 2;guest a; = 1
            error 1 ^cabina 5;
            error 1 cabin a 5^b;
            error 2 lead ^100;
            error 2 cabin a ^45;
            error 3 cabin a 9;guests ^aa 3;
            error 1 cabin a 9;guest a ^needsa;
            error 1 cabin a 9;guest a needs ^abwish x;
            error 1 ^A;
            error 1 ^Z;
            error 1 ^`;
            error 1 ^{;
            error 1 lead ^/;
            error 1 lead ^:;
            error 1 lead ^-1;
            error 1 lead 1^,
            """);
    }

    private static void spaces() {
        Section s = Section.of("Description 5");
        String tokens = "time 50 20 ; lead 7 ; cabin a 9 10 ; meal x menu a 5 2 30 offers ab ; meal y special 1 40 ; "
            + "trolley a 20 ; guests a 2 ; guest a needs a wish x ; guest a wish x ; guest a needs b ;";
        String sentence = "Spaces (byte 32) and line feeds (byte 10) may stand between any two tokens and at both ends, and "
            + "are needed between two words, and between two numbers.";
        String answers = """
            count 5 = 50
            count 10 = 20
            count 11 = 7
            cabin 0 1 = 10
            meal 0 1 = 5
            meal 0 2 = 2
            meal 0 3 = 30
            meal 0 4 = 3
            meal 1 3 = 40
            trolley 0 1 = 20
            passenger 2 1 = 1
            passenger 2 2 = 0
            passenger 4 1 = 2
            """;
        for (String gap : new String[] {" ", "\\n", "\\h20\\h20", "\\n \\n", " \\n"}) {
            s.says(sentence, "good " + gap + tokens.replace(" ", gap) + gap + " = 5\n" + answers);
        }
        String narrow = tokens.replace(" ;", ";").replace("; ", ";").replaceAll("([a-z]) ([0-9])", "$1$2")
            .replaceAll("([0-9]) ([a-z])", "$1$2");
        s.says(sentence, "good " + narrow + " = 5\n" + answers);
        s.says(sentence, """
            good \\h20 = 0
            good \\n\\n = 0
            error 1 ^cabina 5;
            error 1 cabin ^
            error 3 cabin a 9;guests ^ab 1;
            good cabin a 1 2; = 0
            cabin 0 0 = 1
            good cabin a 12; = 0
            cabin 0 0 = 12
            // other white space is no space: tab, vertical tab, form feed, carriage return, 160
            error 1 lead^\\h091;
            error 1 lead^\\h0b1;
            error 1 lead^\\h0c1;
            error 1 lead 1;^\\h0d\\n
            error 1 lead^\\ha01;
            """);
    }

    private static void leastPosition() {
        Section s = Section.of("Description 5");
        String most = "lead 1;".repeat(128);
        s.says("The error with the least position (byte index from 0) is reported, of several at one position the least "
            + "code:", """
            error 1 ^$
            error 1 \\n\\n ^$
            error 2 lead ^100;lead 101;$
            error 1 lead 1^$;lead 100;
            error 3 cabin a 5;cabin ^a 41;
            error 2 cabin a ^41;cabin a 5;
            error 5 cabin a 1;guest a;guest ^a needs zz wish none;
            error 3 cabin a 1;guest a;guest ^b needs zz;
            // 1 ahead of 2 and 5
            error 1 cabin a 1;guests a ^10000;
            error 1 lead ^10000;
            // 2 ahead of 5
            error 2 cabin a 1;guests a ^41;
            """ + "error 4 " + FOUR_CABINS + "^cabin a 41;\n");
        s.says("The error with the least position (byte index from 0)", "error 1 " + most + "   ^$\n"
            + "good " + most + "\\h20\\n\\n\\h20 = 0\n");
        s.says("The error with the least position (byte index from 0)", "error 1 " + most + "lead^\n");
    }

    private static void syntax() {
        Section s = Section.of("Description 5");
        s.says("- 1 SYNTAX: a token that the grammar does not allow there;", errors(1, """
            ^;
            ^special;
            lead 5 ^6;
            cabin c ^d;
            cabin ^; 5;
            meal v ^other 1 1;
            trolley a ^special;
            guest a ^1;"""));
        s.says("a NAME with more than 6 letters, DIETS with another letter, or with a letter twice;", errors(1, """
            cabin ^cccccccc 5;
            cabin ^trolley 5;
            meal ^special special 1 1;
            meal v special 1 1 offers ^abi;
            meal v special 1 1 offers ^z;
            meal v special 1 1 offers ^aba;
            guest a needs ^xa;
            guest a needs ^hh;""") + "error 3 " + NAMES + "guest a wish ^longname;\nerror 3 " + NAMES
            + "trolley ^longname 5;\n");
        s.says("a number of more than 4 digits;", """
            error 1 lead ^00001;
            error 1 lead ^12345;
            error 1 cabin a ^00000;
            error 1 cabin a 5 ^00005;
            error 1 ^12345;
            error 1 lead ^4294967297;
            error 1 lead ^18446744073709551617;
            good lead 0099;cabin a 0040 0050;time 0001 0999; = 0
            count 11 = 99
            cabin 0 0 = 40
            cabin 0 1 = 50
            count 5 = 1
            error 2 lead ^9999;
            error 2 lead ^0100;
            """);
        s.says("the end of the text where more is needed (position: the length).", """
            error 1 lead^
            error 1 lead 1^
            error 1 lead  \\n^
            error 1 lead 1; lead 2 \\n^
            error 1 cabin a 5 6^
            error 1 cabin a 5;guest a needs^
            error 1 cabin a 5;guest a needs a^
            """);
        s.says("- 2 RANGE: a number out of its range.", errors(2, """
            time ^0 1;
            time ^1000 1;
            time 1 ^1000;
            lead ^100;
            lead ^9999;
            cabin c ^0;
            cabin c ^41;
            cabin c 1 ^51;
            meal v menu a ^0 1 1;
            meal v menu a ^100 1 1;
            meal v special ^0 1;
            meal v special ^4 1;
            meal v special 1 ^0;
            trolley a ^0;
            trolley a ^41;
            guests a ^0;
            guests a ^41;"""));
    }

    private static void otherBytes() {
        Section s = Section.of("Description 5");
        for (int sign = 0; sign < 256; sign++) {
            boolean allowed = sign >= 'a' && sign <= 'z' || sign >= '0' && sign <= '9' || " \n;".indexOf(sign) >= 0;
            if (!allowed) {
                String other = String.format("\\h%02x", sign);
                s.says("any other byte;", "error 1 ^" + other + "\nerror 1 lead 1^" + other + ";\nerror 1 lead^" + other
                    + "1;\nerror 1 cabin a^" + other + "b 5;\nerror 1 lead 1;^" + other + "\n");
            }
        }
    }

    private static void names() {
        Section s = Section.of("Description 5");
        s.says("- 3 NAME: the NAME of a cabin that another cabin has, or of a meal that another meal has;", errors(3, """
            cabin ^a 5;
            cabin ^b 41;
            cabin c 5;cabin ^c 5;
            meal ^x special 1 1;
            meal ^z menu a 1 1 1;
            meal v special 1 1;meal ^v special 1 1;""") + "good " + NAMES + "cabin x 5;meal a special 1 1; = 0\n"
            + "good " + NAMES + "cabin aa 5;meal xx special 1 1; = 0\n");
        s.says("a CABIN or MEAL that was not told;", errors(3, """
            trolley ^c 5;
            trolley ^aa 5;
            trolley ^x 5;
            guests ^c 1;
            guest ^x;
            meal v menu ^c 1 1 1;
            guest a wish ^v;
            guest a wish ^xx;
            guest a wish ^a;
            guest a needs a wish ^abcdefgh;"""));
        s.says("a MEAL that is not on the menu of the CABIN.", errors(3, """
            guest a wish ^y;
            guest b wish ^x;
            guest a wish ^z;
            guest a needs a wish ^z;""") + "good " + NAMES + "guest a wish x;guest b wish y; = 2\n");
    }

    private static void limits() {
        Section s = Section.of("Description 5");
        String meals = "";
        for (char name = 'a'; name <= 'l'; name++) {
            meals += "meal " + name + " special 1 1;";
        }
        String trolleys = "trolley a 1;".repeat(8);
        s.says("- 4 LIMIT: the word \"cabin\", \"meal\" or \"trolley\" of one too many;",
            "good " + FOUR_CABINS + meals + trolleys + " = 0\n"
            + "error 4 " + FOUR_CABINS + "^cabin e 1;\n"
            + "error 4 " + FOUR_CABINS + "^cabin a 41;\n"
            + "error 4 " + FOUR_CABINS + "^cabin\n"
            + "error 4 " + meals + "^meal m special 1 1;\n"
            + "error 4 " + meals + "^meal a\n"
            + "error 4 " + FOUR_CABINS + trolleys + "^trolley b 1;\n"
            + "error 4 " + FOUR_CABINS + trolleys + "^trolley x\n"
            // a name is no such word
            + "good cabin cabin 1;cabin b 1;cabin c 1;cabin meal 1;trolley cabin 1; = 0\n");
        s.says("the word \"guest\" if there are 40 passengers.",
            "good " + FORTY_GUESTS + " = 40\n"
            + "error 4 " + FORTY_GUESTS + "^guest d;\n"
            + "error 4 " + FORTY_GUESTS + "^guest x;\n"
            + "error 4 " + FORTY_GUESTS + "^guest\n"
            + "error 4 cabin a 40;guests a 40;^guest a;\n"
            + "good cabin a 40;guests a 39;guest a; = 40\n");
    }

    private static void seats() {
        Section s = Section.of("Description 5");
        s.says("- 5 SEATS: the CABIN of \"guest\" if it has no free seat;", """
            error 5 cabin a 1;guest a;guest ^a;
            error 5 cabin a 2;guests a 2;guest ^a wish none;
            good cabin a 2;guest a;guest a; = 2
            error 5 cabin a 1;cabin b 40;guest a;guests b 38;guest ^a;
            """);
        s.says("the COUNT of \"guests\" that is more than its free seats, or with which there are more than 40 passengers.",
            """
            error 5 cabin a 1;guests a ^2;
            error 5 cabin a 3;guest a;guests a ^3;
            good cabin a 3;guest a;guests a 2; = 3
            error 5 cabin a 3;guests a 3;guests a ^1;
            error 5 cabin a 40;cabin b 40;guests a 20;guests b ^21;
            good cabin a 40;cabin b 40;guests a 20;guests b 20; = 40
            error 5 cabin a 40;cabin b 40;guests a 40;guests b ^1;
            error 5 cabin a 40;cabin b 40;guests a 40;guests b ^40;
            """);
    }
}
