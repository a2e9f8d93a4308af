/** Promises 13 to 16: board, change, leave, setNeeds. */
final class PassengerTest {
    private static final String FLIGHT = "good time 100 20;cabin f 3;cabin y 2;"
        + "meal beef menu f 2 2 50 offers a;meal soup menu y 5 3 9 offers ab;meal vg special 1 70 offers abc;trolley y 9;"
        + "guest f needs c wish beef;guest y;guest f wish beef; = 3\n";

    public static void main(String[] args) {
        board();
        change();
        leave();
        setNeeds();
        refusedBehindService();
        Script.end();
    }

    private static void board() {
        Script.run("board", FLIGHT + """
            board 1 255 1 = 3
            count 3 = 4
            count 9 = 1
            passenger 3 0 = 1
            passenger 3 1 = 255
            passenger 3 2 = 1
            board 0 0 -1 = 4
            passenger 4 2 = -1
            cabin 0 2 = 3
            reason = 0
            board 1 0 1 = throws.IllegalStateException
            reason = 9
            board 0 0 -1 = throws.IllegalStateException
            count 3 = 5
            count 9 = 2
            """);
        Script.run("board, closed", FLIGHT + """
            advance 80 = 0
            count 0 = 2
            board 1 0 -1 = 3
            """);
        Script.run("board with wrong inputs", FLIGHT + """
            board 2 256 9 = throws.NoSuchElementException
            board -1 0 -1 = throws.NoSuchElementException
            board 0 256 3 = throws.NoSuchElementException
            board 0 -1 -2 = throws.NoSuchElementException
            board 0 0 -2147483648 = throws.NoSuchElementException
            board 0 256 -1 = throws.IllegalArgumentException
            board 0 -1 -1 = throws.IllegalArgumentException
            board 0 0 1 = throws.IllegalArgumentException
            board 0 0 2 = throws.IllegalArgumentException
            reason = 0
            board 0 0 -1 = 3
            board 0 256 -1 = throws.IllegalArgumentException
            board 0 0 1 = throws.IllegalArgumentException
            reason = 0
            board 0 0 -1 = throws.IllegalStateException
            reason = 9
            """);
        Script.run("at most 40 passengers", """
            good cabin a 20;cabin b 30;guests a 20;guests b 19; = 39
            board 1 0 -1 = 39
            board 1 0 -1 = throws.IllegalStateException
            reason = 8
            board 0 0 -1 = throws.IllegalStateException
            reason = 8
            count 3 = 40
            leave 39 = 39
            board 0 0 -1 = throws.IllegalStateException
            reason = 9
            """);
    }

    private static void change() {
        Script.run("change", FLIGHT + """
            change 0 1 = 0
            passenger 0 0 = 1
            passenger 0 1 = 4
            passenger 0 2 = -1
            passenger 2 2 = 0
            count 9 = 1
            cabin 0 2 = 1
            cabin 0 3 = 0
            cabin 1 3 = 1
            change 2 1 = throws.IllegalStateException
            reason = 9
            passenger 2 2 = 0
            change 1 1 = throws.IllegalArgumentException
            change 1 0 = 1
            change 2 1 = 0
            change 2 1 = throws.IllegalArgumentException
            count 9 = 3
            change 3 0 = throws.NoSuchElementException
            change -1 0 = throws.NoSuchElementException
            change 0 2 = throws.NoSuchElementException
            change 0 -1 = throws.NoSuchElementException
            reason = 9
            """);
        Script.run("change, closed, up to the last seat", FLIGHT + """
            advance 100 = 0
            change 1 0 = 1
            change 0 1 = 0
            """);
    }

    private static void leave() {
        Script.run("leave", FLIGHT + """
            leave 0 = 2
            passenger 0 0 = 1
            passenger 0 1 = 0
            passenger 0 2 = -1
            passenger 1 0 = 0
            passenger 1 2 = 0
            passenger 2 0 = throws.NoSuchElementException
            leave 2 = throws.NoSuchElementException
            leave -1 = throws.NoSuchElementException
            leave 1 = 1
            passenger 0 0 = 1
            count 9 = 2
            advance 90 = 0
            leave 0 = 0
            leave 0 = throws.NoSuchElementException
            reason = 0
            cabin 0 2 = 0
            cabin 1 2 = 0
            """);
    }

    private static void setNeeds() {
        Script.run("setNeeds", FLIGHT + """
            setNeeds 0 0 = 4
            passenger 0 1 = 0
            passenger 0 2 = 0
            cabin 0 3 = 0
            setNeeds 0 255 = 0
            setNeeds 0 255 = 255
            count 9 = 3
            passenger 1 1 = 0
            setNeeds 0 256 = throws.IllegalArgumentException
            setNeeds 0 -1 = throws.IllegalArgumentException
            setNeeds 3 256 = throws.NoSuchElementException
            setNeeds -1 0 = throws.NoSuchElementException
            reason = 0
            advance 90 = 0
            setNeeds 1 3 = 0
            """);
    }

    private static void refusedBehindService() {
        Script.run("passengers behind the service", FLIGHT + """
            serve = 0
            board 1 0 -1 = throws.IllegalStateException
            reason = 1
            board 1 256 -1 = throws.IllegalArgumentException
            change 0 1 = throws.IllegalStateException
            change 0 0 = throws.IllegalArgumentException
            leave 0 = throws.IllegalStateException
            leave 3 = throws.NoSuchElementException
            setNeeds 0 1 = throws.IllegalStateException
            setNeeds 0 256 = throws.IllegalArgumentException
            passenger 0 1 = 4
            count 3 = 3
            """);
        Script.run("reason 1 goes before 8 and 9", """
            good cabin a 40;cabin b 1;guests a 39;guests b 1; = 40
            change 0 1 = throws.IllegalStateException
            reason = 9
            board 1 0 -1 = throws.IllegalStateException
            reason = 8
            serve = 0
            board 0 0 -1 = throws.IllegalStateException
            reason = 1
            """);
    }
}
