/** Section 5 of the description: grammar, ranges, error codes and positions, tokens. */
final class TextTest {
    public static void main(String[] args) {
        grammar();
        syntax();
        ranges();
        names();
        limits();
        seats();
        leastPosition();
        Script.end();
    }

    private static void grammar() {
        Script.run("spaces and line feeds", """
            good \\n  cabin\\na\\n5\\n9 ;\\n\\n guest a ; \\n = 1
            cabin 0 1 = 9
            good cabin a5;guests a3;lead9; time9 8;trolley a7;meal m special1 2; = 3
            count 5 = 9
            count 10 = 8
            count 11 = 9
            meal 0 2 = 1
            meal 0 3 = 2
            trolley 0 1 = 7
            good \\n = 0
            """);
        Script.run("what is told", """
            good cabin abcdef 40 50;cabin b 1 0;meal abcdef menu b 99 3 9999 offers hgfedcba;meal b special 1 1; = 0
            cabin 0 0 = 40
            cabin 0 1 = 50
            cabin 1 0 = 1
            cabin 1 1 = 0
            meal 0 0 = 1
            meal 0 1 = 99
            meal 0 2 = 3
            meal 0 3 = 9999
            meal 0 4 = 255
            meal 1 0 = -1
            meal 1 4 = 0
            good cabin a 9;meal m menu a 1 1 1 offers c;guest a needs bd wish m;guest a wish m;guest a needs h;guest a; = 4
            meal 0 4 = 4
            passenger 0 1 = 10
            passenger 0 2 = 0
            passenger 1 1 = 0
            passenger 1 2 = 0
            passenger 2 1 = 128
            passenger 2 2 = -1
            passenger 3 1 = 0
            passenger 3 2 = -1
            """);
        Script.run("words of any kind", """
            good cabin cabin 5;cabin guest 6;meal offers menu guest 1 1 1;meal cabin special 1 1 offers a; = 0
            good cabin needs 5;meal wish menu needs 1 1 1;guest needs needs a wish wish;guest needs wish wish; = 2
            passenger 0 2 = 0
            passenger 1 2 = 0
            good cabin menu 5;meal menu menu menu 2 1 1;trolley menu 3;guests menu 4;meal time special 1 1; = 4
            """);
        Script.run("the last time and the last lead count", """
            good time 5 1;lead 3;time 999 999;lead 99; = 0
            count 5 = 999
            count 10 = 999
            count 11 = 99
            count 0 = 2
            good lead 99;time 1 0;lead 0; = 0
            count 5 = 1
            count 10 = 0
            count 11 = 0
            count 0 = 1
            good time 0001 0000;lead 0007; = 0
            count 5 = 1
            count 11 = 7
            """);
    }

    private static void syntax() {
        Script.run("SYNTAX in the first word", """
            error 1 ^;
            error 1 ^7;
            error 1 ^foo;
            error 1 lead 1;^;
            error 1 ^leads 1;
            error 1 ^guestsx a 1;
            error 1 ^Lead 1;
            error 1 ^cabi n 5;
            error 1 ^cabina 5;
            error 1 ^special;
            """);
        Script.run("SYNTAX at the end", """
            error 1 lead^
            error 1 lead 1^
            error 1 lead 1; time 5  \\n^
            error 1 cabin^
            error 1 cabin a^
            error 1 cabin a 5^
            error 1 cabin a 5 6^
            error 1 meal m^
            error 1 meal m special^
            error 1 meal m special 1^
            error 1 meal m special 1 1^
            error 1 meal m special 1 1 offers^
            error 1 meal m special 1 1 offers a^
            error 1 meal m menu^
            error 1 cabin a 1;meal m menu a^
            error 1 cabin a 1;guest^
            error 1 cabin a 1;guest a^
            error 1 cabin a 1;guest a needs^
            error 1 cabin a 1;guest a needs a^
            error 1 cabin a 1;guest a wish^
            error 1 cabin a 1;guests a^
            error 1 cabin a 1;trolley^
            error 1 cabin a 1;trolley a^
            error 1 cabin a 1;trolley a 1^
            """);
        Script.run("SYNTAX inside a statement", """
            error 1 lead ^a;
            error 1 lead ^;
            error 1 lead 1 ^2;
            error 1 time 1 ^;
            error 1 time 1 1 ^1;
            error 1 time 1 1 ^a;
            error 1 cabin ^5 a;
            error 1 cabin a ^;
            error 1 cabin a 5 6 ^7;
            error 1 cabin a 5 ^b;
            error 1 cabin ^;
            error 1 meal m ^other 1 1;
            error 1 meal m ^specials 1 1;
            error 1 meal m ^1 1;
            error 1 meal m special ^offers a;
            error 1 meal m special 1 1 ^1;
            error 1 meal m special 1 1 ^offer a;
            error 1 meal m special 1 1 offers ^;
            error 1 meal m special 1 1 offers ^1;
            error 1 meal m special 1 1 offers a ^b;
            error 1 meal m menu ^5;
            error 1 cabin a 1;guest ^;
            error 1 cabin a 1;guest ^1;
            error 1 cabin a 1;guest a ^wishes;
            error 1 cabin a 1;guest a ^1;
            error 1 cabin a 1;meal m menu a 1 1 1;guest a wish m ^needs a;
            error 1 cabin a 1;meal m menu a 1 1 1;guest a wish ^1;
            error 1 cabin a 1;meal m menu a 1 1 1;guest a wish ^;
            error 1 cabin a 1;guest a needs a ^needs b;
            error 1 cabin a 1;guests a ^b;
            error 1 cabin a 1;guests ^1;
            error 1 cabin a 1;trolley ^1;
            error 1 cabin a 1;trolley a 1 ^1;
            error 1 cabin a 1;trolley a ^a;
            """);
        Script.run("SYNTAX of tokens", """
            error 1 cabin ^abcdefg 5;
            error 1 meal ^special special 1 1;
            error 1 lead ^00001;
            error 1 lead ^12345;
            error 1 cabin a ^99999;
            error 1 cabin a 5 ^00005;
            error 1 cabin a 5^\\h09;
            error 1 lead 5^,;
            error 1 lead^-5;
            error 1 ^\\hc3;
            error 1 lead 1^\\hc3;
            error 1 lead^\\h001;
            error 1 lead 1;^$
            error 1 lead 1^A;
            error 1 cabin a^A 5;
            error 1 ^`;
            error 1 ^{;
            error 1 lead ^/;
            error 1 lead ^:;
            error 1 meal m special 1 1 offers ^abi;
            error 1 meal m special 1 1 offers ^aba;
            error 1 meal m special 1 1 offers ^abcdefgha;
            error 1 meal m special 1 1 offers ^offers;
            error 1 cabin a 1;guest a needs ^hh;
            error 1 cabin a 1;guest a needs ^z;
            error 1 lead ^10000000000000000000000000000000000000000001;
            error 1 lead ^4294967296;
            """);
    }

    private static void ranges() {
        Script.run("RANGE", """
            error 2 time ^0 1;
            error 2 time ^1000 1;
            error 2 time ^9999 9999;
            error 2 time 1 ^1000;
            error 2 lead ^100;
            error 2 cabin a ^0;
            error 2 cabin a ^41;
            error 2 cabin a 1 ^51;
            error 2 meal m special ^0 1;
            error 2 meal m special ^4 1;
            error 2 meal m special 1 ^0;
            error 2 cabin a 1;meal m menu a ^0 1 1;
            error 2 cabin a 1;meal m menu a ^100 1 1;
            error 2 cabin a 1;trolley a ^0;
            error 2 cabin a 1;trolley a ^41;
            error 2 cabin a 1;guests a ^0;
            error 2 cabin a 1;guests a ^41;
            error 2 cabin a 40;guests a ^41;
            """);
    }

    private static void names() {
        Script.run("NAME", """
            error 3 cabin a 1;cabin ^a 2;
            error 3 cabin a 1;cabin b 1;cabin c 1;cabin ^b 2;
            error 3 meal m special 1 1;meal ^m special 1 1;
            error 3 cabin a 1;meal m special 1 1;meal ^m menu a 1 1 1;
            error 3 trolley ^a 1;
            error 3 cabin a 1;trolley ^b 1;
            error 3 cabin a 1;trolley ^aa 1;
            error 3 cabin aa 1;trolley ^a 1;
            error 3 cabin a 1;trolley ^longname 1;
            error 3 meal m special 1 1;trolley ^m 1;
            error 3 cabin a 1;meal m menu ^m 1 1 1;
            error 3 guest ^a;
            error 3 guests ^a 1;
            error 3 cabin a 1;guest a wish ^m;
            error 3 cabin a 1;guest a wish ^longnames;
            error 3 cabin a 1;meal m special 1 1;guest a wish ^m;
            error 3 cabin a 1;cabin b 1;meal m menu b 1 1 1;guest a wish ^m;
            error 3 cabin a 1;guest a wish ^a;
            error 3 guest ^a;cabin a 1;
            """);
        Script.run("a name that an error left behind is free", """
            error 1 cabin a 1;meal m special 1 1;cabin b^$
            good cabin a 1;meal m special 1 1;cabin b 2; = 0
            count 1 = 2
            """);
    }

    private static void limits() {
        String cabins = "cabin a 40;cabin b 40;cabin c 40;cabin d 40;";
        String meals = "";
        for (char name = 'a'; name <= 'l'; name++) {
            meals += "meal " + name + " special 1 1;";
        }
        String trolleys = "trolley a 1;".repeat(8);
        Script.run("LIMIT", ""
            + "good " + cabins + meals + trolleys + "guests a 40; = 40\n"
            + "count 1 = 4\ncount 2 = 12\ncount 3 = 40\ncount 4 = 8\n"
            + "error 4 " + cabins + "^cabin e 1;\n"
            + "error 4 " + cabins + "^cabin a 41;\n"
            + "error 4 " + cabins + "^cabin\n"
            + "error 4 " + meals + "^meal m special 1 1;\n"
            + "error 4 " + meals + "^meal a\n"
            + "error 4 " + cabins + trolleys + "^trolley a 1;\n"
            + "error 4 " + cabins + trolleys + "^trolley x\n"
            + "error 4 " + cabins + "guests b 40;^guest a;\n"
            + "error 4 " + cabins + "guests b 40;^guest x;\n"
            + "error 4 " + cabins + "guests a 39;guest a;^guest a;\n"
            + "error 5 " + cabins + "guests b 40;guests a ^1;\n");
    }

    private static void seats() {
        Script.run("SEATS", """
            error 5 cabin a 1;guest a;guest ^a;
            error 5 cabin a 1;guest a;guest ^a needs z;
            error 5 cabin a 1;guests a ^2;
            error 5 cabin a 3;guest a;guests a ^3;
            good cabin a 3;guest a;guests a 2; = 3
            error 5 cabin a 3;cabin b 2;guests a 3;guests b 2;guests b ^1;
            good cabin a 40;cabin b 40;guests a 20;guests b 20; = 40
            error 5 cabin a 40;cabin b 40;guests a 20;guests b ^21;
            good cabin a 40;cabin b 40;guests a 20;guests b 19;guest a; = 40
            error 2 cabin a 1;guest a;guests a ^0;
            error 3 cabin a 1;guest a;guests ^b 9;
            """);
    }

    private static void leastPosition() {
        Script.run("the least position is told", """
            error 2 lead ^100;lead 101;$
            error 1 lead 1^$;lead 100;
            error 3 cabin a 5;cabin ^a 41;
            error 2 cabin a ^41;cabin a 5
            error 1 cabin a 5;meal m menu a 1 1 ^m;
            error 2 cabin a 5;meal m menu a 1 ^9 m;
            """);
    }
}
