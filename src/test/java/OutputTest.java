/** Promises 33 and 34: writeTrolley, outputByte. */
final class OutputTest {
    public static void main(String[] args) {
        Script.run("output", """
            outputByte 0 = throws.IndexOutOfBoundsException
            good cabin a 9;meal x menu a 1 1 5;meal abcdef special 1 7;meal z special 1 7;trolley a 40;trolley a 30;guests a 2; = 2
            outputByte 0 = throws.IndexOutOfBoundsException
            writes 0 =
            writeTrolley 0 = 1
            store 2 9 = 9
            store 1 10 = 10
            writes 0 = 10xabcdef 9xz
            outputByte 0 = 49
            outputByte 1 = 48
            outputByte 2 = 120
            outputByte 3 = 97
            outputByte 9 = 32
            outputByte 12 = 122
            outputByte 13 = 10
            outputByte 14 = throws.IndexOutOfBoundsException
            outputByte -1 = throws.IndexOutOfBoundsException
            outputByte 2147483647 = throws.IndexOutOfBoundsException
            writeTrolley 2 = throws.NoSuchElementException
            writeTrolley -1 = throws.NoSuchElementException
            outputByte 13 = 10
            store 0 30 = 30
            writes 0 = 21xx 10xabcdef 9xz
            writes 1 = 9xx
            serve = 2
            writes 0 = 21xx 10xabcdef 9xz
            undo = 3
            outputByte 13 = 102
            keep 0 = 1
            restore 0 = 1
            outputByte 0 = 50
            error 1 ^$
            outputByte 0 = 50
            """);
        String letters = "abcdefghijkl";
        StringBuilder meals = new StringBuilder();
        StringBuilder stores = new StringBuilder();
        StringBuilder line = new StringBuilder();
        for (int m = 0; m < 12; m++) {
            char name = letters.charAt(m);
            meals.append("meal ").append(("" + name).repeat(6)).append(" special 1 1;");
            int units = m < 2 ? 10 : 2;
            stores.append("store ").append(m).append(' ').append(units).append(" = ").append(units).append('\n');
            line.append(m == 0 ? "" : " ").append(units).append('x').append(("" + name).repeat(6));
        }
        Script.run("twelve meals", "good cabin a 9;trolley a 40;" + meals + " = 0\n" + stores
            + "writes 0 = " + line + "\n");
        Script.end();
    }
}
