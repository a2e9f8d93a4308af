/** The example of README.md: a flight is read, changed, loaded and served. */
final class Example {
    public static void main(String[] args) {
        MealLoader loader = new MealLoader();
        int passengers = read(loader, "time 90 30; lead 10; cabin eco 6 20; meal beef menu eco 2 1 400;"
            + " meal soup menu eco 1 2 250 offers a; meal veg special 1 500 offers ab; trolley eco 12;"
            + " guests eco 3; guest eco needs b; guest eco wish soup;");
        System.out.println(passengers + " passengers, phase " + loader.count(0));

        int newcomer = loader.board(0, 0b11, MealLoader.NONE);
        System.out.println("passenger " + newcomer + " can have the meals " + loader.passenger(newcomer, 4));
        System.out.println("units of the order that were loaded: " + loader.loadOrder());
        System.out.println("meal for passenger " + newcomer + ": " + loader.mealFor(newcomer));

        try {
            loader.board(0, 0, MealLoader.NONE);
        } catch (IllegalStateException e) {
            System.out.println("refused, reason " + loader.reason());
        }
        loader.leave(newcomer);
        System.out.println("acts that can still be undone: " + loader.undo());

        int length = loader.writeTrolley(0);
        for (int i = 0; i < length; i++) {
            System.out.print((char) loader.outputByte(i));
        }
        System.out.println("eaten: " + loader.serve() + ", hungry: " + loader.outlook(2) + ", wasted: " + loader.account(2));

        try {
            read(loader, "cabin eco 6; cabin eco 99;");
        } catch (IllegalStateException e) {
            System.out.println("error " + loader.errorCode() + " at byte " + loader.errorPosition());
        }
        System.out.println("the flight of before is still there: " + loader.count(3) + " passengers");
    }

    /** Feeds a text of at most 900 bytes, 20 at a time, and loads it. */
    private static int read(MealLoader loader, String text) {
        for (int at = 0; at < text.length(); at += 20) {
            loader.feed(four(text, at), four(text, at + 4), four(text, at + 8), four(text, at + 12), four(text, at + 16));
        }
        return loader.load(text.length());
    }

    /** Four bytes as one number, the first one highest. What is fed behind the end of the text is not parsed. */
    private static int four(String text, int at) {
        int number = 0;
        for (int i = at; i < at + 4; i++) {
            number = number << 8 | (i < text.length() ? text.charAt(i) : 0);
        }
        return number;
    }
}
