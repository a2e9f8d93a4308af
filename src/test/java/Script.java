import java.lang.reflect.InvocationTargetException;
import java.lang.reflect.Method;
import java.util.ArrayList;
import java.util.HashMap;
import java.util.List;
import java.util.Map;
import java.util.regex.MatchResult;
import java.util.regex.Pattern;

/**
 * Runs scripts of calls on new objects of MealLoader and counts the answers that are not due. A line is one of
 *   board 0 3 -1 = 7               the call answers 7
 *   count 12 = throws.E            the call throws the exception E (and no subclass of it)
 *   board 0 3 -1 = refused 8       the call throws an IllegalStateException, and reason() is 8 then
 *   serve = undone 4               the call answers 4; on another object it is undone, and all is as it was before
 *   wasteBits = float 1/3          the bits of the float 1/3; costBits = double 1/3 likewise
 *   good TEXT = 7                  the text is fed and loaded, and load() answers 7
 *   error 2 TEXT                   the text is fed and refused with code 2 at the place of the first sign ^ in TEXT
 *   writes 0 = TEXT                writeTrolley(0) and outputByte() answer this text and a line feed
 *   feeds TEXT = 20                the text is fed, the buffer has 20 bytes then
 * In a TEXT, \n stands for a line feed, and \h with two digits for the byte that they tell in base 16.
 * Behind each call that throws, all that can be seen must be as without the call, but for reason() where an act was
 * refused, and for the buffer and the error where a text was.
 */
final class Script {
    private static final List<String> ACTS = List.of("board", "change", "leave", "setNeeds", "loadOrder", "store",
        "unload", "topUp", "advance", "serve");
    private static final Pattern BYTE = Pattern.compile("\\\\h([0-9a-f]{2})");
    private static final Map<String, Method> METHODS = new HashMap<>();
    private static final int MOST_TOLD = 20;
    private static int wrong = 0;

    private final String name;
    private final MealLoader loader = new MealLoader();
    private final List<String> calls = new ArrayList<>();

    private Script(String name) {
        this.name = name;
    }

    static void run(String name, String lines) {
        Script script = new Script(name);
        for (String line : lines.split("\n")) {
            String plain = line.strip();
            if (!plain.isEmpty() && !plain.startsWith("//")) {
                script.line(plain);
            }
        }
    }

    /** Lines in which a call has, in place of the sign #, numbers beyond least and most, and throws. */
    static String beyond(String call, int least, int most, String exception) {
        StringBuilder lines = new StringBuilder();
        for (int number : new int[] {least - 1, most + 1, Integer.MIN_VALUE, Integer.MAX_VALUE}) {
            lines.append(call.replace("#", "" + number)).append(" = throws.").append(exception).append('\n');
        }
        return lines.toString();
    }

    /** Ends the test: with the exit code 1 if an answer was not due. */
    static void end() {
        if (wrong != 0) {
            System.out.println(wrong + " answers are not as due");
            System.exit(1);
        }
    }

    private void line(String line) {
        String word = line.split(" ")[0];
        if (word.equals("error")) {
            error(line);
            return;
        }
        int sign = line.lastIndexOf(" =");
        String call = line.substring(0, sign);
        String want = line.substring(sign + 2).strip();
        String rest = call.substring(Math.min(call.length(), word.length() + 1));
        switch (word) {
            case "good" -> good(line, unescape(rest), want);
            case "feeds" -> check(line, feed(line, unescape(rest)), want);
            case "writes" -> writes(line, rest, want);
            default -> call(line, call, want);
        }
    }

    private void call(String line, String call, String want) {
        if (want.startsWith("refused ")) {
            check(line, make(line, call), "throws.IllegalStateException");
            check(line, "reason " + loader.reason(), "reason " + want.substring(8));
        } else if (want.startsWith("undone ")) {
            List<String> undone = new ArrayList<>(calls);
            undone.addAll(List.of(call, "undo"));
            same(line, Seen.behind(undone, true, true), Seen.behind(calls, true, true));
            check(line, make(line, call), want.substring(7));
        } else {
            check(line, make(line, call), reckon(want));
        }
    }

    private void good(String line, String text, String want) {
        check(line, loadText(line, text), want);
        check(line, "" + loader.errorCode(), "0");
        check(line, "" + loader.errorPosition(), "-1");
    }

    private void error(String line) {
        String[] parts = line.split(" ", 3);
        String before = unescape(parts[2].substring(0, parts[2].indexOf('^')));
        String behind = unescape(parts[2].substring(parts[2].indexOf('^') + 1));
        check(line, loadText(line, before + behind), "throws.IllegalStateException");
        check(line, "" + loader.errorCode(), parts[1]);
        check(line, "" + loader.errorPosition(), "" + before.length());
    }

    private void writes(String line, String trolley, String want) {
        int length = Integer.parseInt(make(line, "writeTrolley " + trolley));
        StringBuilder got = new StringBuilder();
        for (int i = 0; i < length; i++) {
            got.append((char) loader.outputByte(i));
        }
        check(line, got.toString(), want + "\n");
        check(line, answer(loader, "outputByte " + length), "throws.IndexOutOfBoundsException");
    }

    private String loadText(String line, String text) {
        feed(line, text);
        return make(line, "load " + text.length());
    }

    private String feed(String line, String text) {
        String length = "0";
        for (String call : feeds(text)) {
            length = make(line, call);
        }
        return length;
    }

    /** Makes a call; where it throws, looks whether it changed what it may not. */
    private String make(String line, String call) {
        String got = answer(loader, call);
        if (got.startsWith("throws.")) {
            List<String> with = new ArrayList<>(calls);
            with.add(call);
            String word = call.split(" ")[0];
            boolean refused = got.equals("throws.IllegalStateException");
            boolean withReason = !(refused && ACTS.contains(word));
            boolean withInput = !(refused && word.equals("load"));
            same(line, Seen.behind(with, withReason, withInput), Seen.behind(calls, withReason, withInput));
            if (!withInput) {
                check(line, Seen.answerBehind(with, "load 1"), "throws.IllegalArgumentException");
            }
        }
        calls.add(call);
        return got;
    }

    private void same(String line, String got, String want) {
        if (!got.equals(want)) {
            String[] gotLines = got.split("\n");
            String[] wantLines = want.split("\n");
            int i = 0;
            while (i < gotLines.length - 1 && i < wantLines.length - 1 && gotLines[i].equals(wantLines[i])) {
                i++;
            }
            check(line + " (what can be seen)", gotLines[i], wantLines[i]);
        }
    }

    /** Feeds a text, with signs behind it that no text may have where 20 does not divide its length. */
    static String feedTo(Object target, String text) {
        String length = "0";
        for (String call : feeds(text)) {
            length = answer(target, call);
        }
        return length;
    }

    private static List<String> feeds(String text) {
        List<String> feeds = new ArrayList<>();
        for (int at = 0; at < text.length(); at += 20) {
            StringBuilder call = new StringBuilder("feed");
            for (int four = at; four < at + 20; four += 4) {
                int number = 0;
                for (int i = four; i < four + 4; i++) {
                    number = number << 8 | (i < text.length() ? text.charAt(i) : '$');
                }
                call.append(' ').append(number);
            }
            feeds.add(call.toString());
        }
        return feeds;
    }

    /** What a call answers: its value, or throws. and the name of the exception. */
    static String answer(Object target, String call) {
        String[] words = call.split(" ");
        Object[] arguments = new Object[words.length - 1];
        for (int i = 0; i < arguments.length; i++) {
            arguments[i] = Integer.parseInt(words[i + 1]);
        }
        try {
            return String.valueOf(method(target.getClass(), words[0]).invoke(target, arguments));
        } catch (InvocationTargetException e) {
            return "throws." + e.getCause().getClass().getSimpleName();
        } catch (ReflectiveOperationException e) {
            return "no such call";
        }
    }

    private static Method method(Class<?> type, String name) throws NoSuchMethodException {
        String key = type.getName() + " " + name;
        if (!METHODS.containsKey(key)) {
            for (Method method : type.getDeclaredMethods()) {
                if (method.getName().equals(name)) {
                    method.setAccessible(true);
                    METHODS.put(key, method);
                }
            }
        }
        if (!METHODS.containsKey(key)) {
            throw new NoSuchMethodException(key);
        }
        return METHODS.get(key);
    }

    private static String reckon(String want) {
        String[] words = want.split("[ /]");
        if (words[0].equals("float")) {
            return "" + Float.floatToIntBits((float) Long.parseLong(words[1]) / (float) Long.parseLong(words[2]));
        }
        if (words[0].equals("double")) {
            return "" + Double.doubleToLongBits((double) Long.parseLong(words[1]) / (double) Long.parseLong(words[2]));
        }
        return want;
    }

    private static String unescape(String text) {
        return BYTE.matcher(text.replace("\\n", "\n")).replaceAll(Script::sign);
    }

    private static String sign(MatchResult found) {
        return java.util.regex.Matcher.quoteReplacement("" + (char) Integer.parseInt(found.group(1), 16));
    }

    private void check(String line, String got, String want) {
        if (!got.equals(want)) {
            tell(name + ": " + line + ": answered " + got + ", due is " + want);
        }
    }

    /** Tells of a wrong answer that a test found by itself; behind the first ones they are counted alone. */
    static void tell(String what) {
        wrong++;
        if (wrong <= MOST_TOLD) {
            System.out.println(what);
        }
    }
}
