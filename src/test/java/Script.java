import java.lang.reflect.InvocationTargetException;
import java.lang.reflect.Method;

/**
 * Runs scripts of calls on new objects of MealLoader and counts the answers that are not due. A line is one of
 *   board 0 3 -1 = 7               the call answers 7
 *   count 12 = throws.E            the call throws the exception E (and no subclass of it)
 *   wasteBits = float 1/3          the bits of the float 1/3; costBits = double 1/3 likewise
 *   good TEXT = 7                  the text is fed and loaded, and load() answers 7
 *   error 2 TEXT                   the text is fed and refused with code 2 at the place of the sign ^ in TEXT
 *   writes 0 = TEXT                writeTrolley(0) and outputByte() answer this text and a line feed
 *   feeds TEXT = 20                the text is fed, the buffer has 20 bytes then
 * In a TEXT, \n stands for a line feed, \t for a tab, \x for the byte 195 and \z for the byte 0.
 */
final class Script {
    private static int wrong = 0;

    private final String name;
    private final MealLoader loader = new MealLoader();

    private Script(String name) {
        this.name = name;
    }

    static void run(String name, String lines) {
        Script script = new Script(name);
        for (String line : lines.split("\n")) {
            String plain = line.strip();
            if (!plain.isEmpty() && !plain.startsWith("//")) {
                script.line(plain);
            }
        }
    }

    /** Ends the test: with the exit code 1 if an answer was not due. */
    static void end() {
        if (wrong != 0) {
            System.out.println(wrong + " answers are not as due");
            System.exit(1);
        }
    }

    private void line(String line) {
        String word = line.split(" ")[0];
        if (word.equals("error")) {
            error(line);
            return;
        }
        int sign = line.lastIndexOf(" =");
        String call = line.substring(0, sign);
        String want = line.substring(sign + 2).strip();
        String rest = call.substring(Math.min(call.length(), word.length() + 1));
        switch (word) {
            case "good" -> check(line, loadText(unescape(rest)), want);
            case "feeds" -> check(line, feedTo(loader, unescape(rest)), want);
            case "writes" -> writes(line, rest, want);
            default -> check(line, answer(loader, call), reckon(want));
        }
    }

    private void error(String line) {
        String[] parts = line.split(" ", 3);
        String text = unescape(parts[2]);
        int position = text.indexOf('^');
        check(line, loadText(text.replace("^", "")), "throws.IllegalStateException");
        check(line, "" + loader.errorCode(), parts[1]);
        check(line, "" + loader.errorPosition(), "" + position);
    }

    private void writes(String line, String trolley, String want) {
        int length = loader.writeTrolley(Integer.parseInt(trolley));
        StringBuilder got = new StringBuilder();
        for (int i = 0; i < length; i++) {
            got.append((char) loader.outputByte(i));
        }
        check(line, got.toString(), want + "\n");
        check(line, answer(loader, "outputByte " + length), "throws.IndexOutOfBoundsException");
    }

    private String loadText(String text) {
        feedTo(loader, text);
        return answer(loader, "load " + text.length());
    }

    /** Feeds a text, with signs behind it that no text may have where 20 does not divide its length. */
    static String feedTo(Object target, String text) {
        String length = "0";
        for (int at = 0; at < text.length(); at += 20) {
            StringBuilder call = new StringBuilder("feed");
            for (int four = at; four < at + 20; four += 4) {
                int number = 0;
                for (int i = four; i < four + 4; i++) {
                    number = number << 8 | (i < text.length() ? text.charAt(i) : '$');
                }
                call.append(' ').append(number);
            }
            length = answer(target, call.toString());
        }
        return length;
    }

    /** What a call answers: its value, or throws. and the name of the exception. */
    static String answer(Object target, String call) {
        String[] words = call.split(" ");
        Object[] arguments = new Object[words.length - 1];
        Class<?>[] types = new Class<?>[words.length - 1];
        for (int i = 0; i < arguments.length; i++) {
            arguments[i] = Integer.parseInt(words[i + 1]);
            types[i] = int.class;
        }
        try {
            Method method = target.getClass().getDeclaredMethod(words[0], types);
            method.setAccessible(true);
            return String.valueOf(method.invoke(target, arguments));
        } catch (InvocationTargetException e) {
            return "throws." + e.getCause().getClass().getSimpleName();
        } catch (ReflectiveOperationException e) {
            return "no such call";
        }
    }

    private static String reckon(String want) {
        String[] words = want.split("[ /]");
        if (words[0].equals("float")) {
            return "" + Float.floatToIntBits((float) Long.parseLong(words[1]) / (float) Long.parseLong(words[2]));
        }
        if (words[0].equals("double")) {
            return "" + Double.doubleToLongBits((double) Long.parseLong(words[1]) / (double) Long.parseLong(words[2]));
        }
        return want;
    }

    private static String unescape(String text) {
        return text.replace("\\n", "\n").replace("\\t", "\t").replace("\\x", "\u00c3").replace("\\z", "\0");
    }

    private void check(String line, String got, String want) {
        if (!got.equals(want)) {
            wrong++;
            System.out.println(name + ": " + line + ": answered " + got + ", due is " + want);
        }
    }

    /** Tells of a wrong answer that a test found by itself. */
    static void tell(String what) {
        wrong++;
        System.out.println(what);
    }
}
