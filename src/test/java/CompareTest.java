import java.util.ArrayList;
import java.util.List;

/**
 * Long runs of calls, the same on MealLoader and on the Model, which must answer alike. The numbers come from a row
 * that is always the same. No call may throw anything but what the document names (a subclass has another name).
 */
final class CompareTest {
    private static final String[] REPORTS = {"count 12", "cabin 4 8", "meal 12 10", "passenger 40 6", "trolley 8 4",
        "held 8 12", "topUpAt 6 3", "errorCode", "errorPosition", "reason", "outlook 6", "mealFor 40", "account 6",
        "wasteShare", "wasteBits", "costBits", "writeTrolley 8", "outputByte 20"};
    private static final String[] ACTS = {"board 4 256 12", "change 40 4", "leave 40", "setNeeds 40 256", "loadOrder",
        "store 12 12", "store 12 12", "unload 12 9", "topUp 12 20", "advance 30", "serve", "undo", "undo", "keep 2",
        "restore 2", "feed 900 900 900 900 900"};

    private static long row = 20261119;

    private static int below(int bound) {
        row = row * 6364136223846793005L + 1442695040888963407L;
        return (int) ((row >>> 33) % bound);
    }

    public static void main(String[] args) {
        for (int run = 0; run < 1500; run++) {
            compare(run);
        }
        Script.end();
    }

    private static void compare(int run) {
        MealLoader loader = new MealLoader();
        Model model = new Model();
        List<String> calls = new ArrayList<>();
        int most = 60 + below(200);
        while (calls.size() < most) {
            if (below(40) == 0 || calls.isEmpty() && below(20) > 0) {
                if (!text(run, loader, model, calls)) {
                    return;
                }
            }
            String call = below(5) < 2 ? call(ACTS) : call(REPORTS);
            if (!same(run, loader, model, calls, call)) {
                return;
            }
        }
        everything(run, loader, model, calls);
    }

    private static boolean same(int run, MealLoader loader, Model model, List<String> calls, String call) {
        calls.add(call);
        String got = Script.answer(loader, call);
        String want = Script.answer(model, call);
        if (!got.equals(want)) {
            Script.tell("run " + run + ": " + calls + " answered " + got + ", the model " + want);
        }
        return got.equals(want);
    }

    /** A call with numbers below the bounds that stand behind its name, and with others now and then. */
    private static String call(String[] shapes) {
        String[] words = shapes[below(shapes.length)].split(" ");
        StringBuilder call = new StringBuilder(words[0]);
        for (int i = 1; i < words.length; i++) {
            int bound = Integer.parseInt(words[i]);
            int number = switch (below(16)) {
                case 0 -> -1;
                case 1 -> bound;
                case 2 -> below(2) == 0 ? Integer.MIN_VALUE + below(3) : Integer.MAX_VALUE - below(3);
                case 3, 4, 5, 6 -> below(Math.min(bound, 3));
                default -> below(bound);
            };
            call.append(' ').append(number);
        }
        return call.toString();
    }

    private static boolean text(int run, MealLoader loader, Model model, List<String> calls) {
        String text = below(8) == 0 ? mixed() : flight();
        if (below(6) == 0 && !text.isEmpty()) {
            text = spoiled(text);
        }
        // What stands in the buffer goes first, so a text is whole only behind an empty one.
        same(run, loader, model, calls, "load 0");
        text = text.substring(0, Math.min(text.length(), 900));
        calls.add("feed " + text.replace("\n", "\\n"));
        Script.feed(loader, text);
        for (String call : feeds(text)) {
            Script.answer(model, call);
        }
        return same(run, loader, model, calls, "load " + text.length())
            && same(run, loader, model, calls, "errorCode") && same(run, loader, model, calls, "errorPosition");
    }

    private static List<String> feeds(String text) {
        List<String> calls = new ArrayList<>();
        for (int at = 0; at < text.length(); at += 20) {
            StringBuilder call = new StringBuilder("feed");
            for (int four = 0; four < 20; four += 4) {
                int number = 0;
                for (int i = 0; i < 4; i++) {
                    int place = at + four + i;
                    number = number << 8 | (place < text.length() ? text.charAt(place) : '$');
                }
                call.append(' ').append(number);
            }
            calls.add(call.toString());
        }
        return calls;
    }

    private static String flight() {
        StringBuilder text = new StringBuilder();
        int cabins = 1 + below(4);
        int meals = 1 + below(12);
        if (below(3) == 0) {
            text.append("time ").append(1 + below(60)).append(' ').append(below(30)).append(';');
        }
        if (below(2) == 0) {
            text.append("lead ").append(below(3) == 0 ? 0 : below(12)).append(';');
        }
        for (int c = 0; c < cabins; c++) {
            text.append("cabin ").append((char) ('a' + c)).append(' ').append(1 + below(below(2) == 0 ? 40 : 12));
            text.append(below(2) == 0 ? "" : " " + below(51)).append(below(9) == 0 ? ";\n" : ";");
        }
        for (int m = 0; m < meals; m++) {
            text.append("meal ").append((char) ('a' + m)).append(below(4) == 0 ? "x" : "");
            if (below(2) == 0) {
                text.append(" special ");
            } else {
                text.append(" menu ").append((char) ('a' + below(cabins))).append(' ');
                text.append(1 + below(below(2) == 0 ? 4 : 99)).append(' ');
            }
            text.append(1 + below(3)).append(' ').append(1 + below(below(2) == 0 ? 3 : 9999));
            text.append(below(4) == 0 ? "" : " offers " + diets()).append(';');
        }
        for (int t = below(9); t > 0; t--) {
            text.append("trolley ").append((char) ('a' + below(cabins))).append(' ').append(1 + below(40)).append(';');
        }
        for (int g = below(20); g > 0; g--) {
            text.append("guest ").append((char) ('a' + below(cabins)));
            text.append(below(3) == 0 ? "" : " needs " + diets());
            text.append(below(6) == 0 ? " wish " + (char) ('a' + below(meals)) : "").append(';');
            if (below(8) == 0) {
                text.append("guests ").append((char) ('a' + below(cabins))).append(' ').append(1 + below(5)).append(';');
            }
        }
        return text.toString();
    }

    private static String diets() {
        StringBuilder diets = new StringBuilder();
        for (char diet = 'a'; diet <= 'c' + below(6); diet++) {
            if (below(3) == 0) {
                diets.append(diet);
            }
        }
        return diets.isEmpty() ? "a" : diets.toString();
    }

    private static String mixed() {
        String[] parts = {"time", "lead", "cabin", "meal", "trolley", "guest", "guests", "special", "menu", "offers",
            "needs", "wish", ";", "1", "2", "40", "0041", "a", "b", "a", "abcdef", "abcdefg", "12345", "0", "\n", "A"};
        StringBuilder text = new StringBuilder();
        for (int i = below(30); i > 0; i--) {
            text.append(parts[below(parts.length)]).append(' ');
        }
        return text.toString();
    }

    private static String spoiled(String text) {
        int at = below(text.length());
        return switch (below(3)) {
            case 0 -> text.substring(0, at);
            case 1 -> text.substring(0, at) + text.substring(at + 1);
            default -> text.substring(0, at) + "a1;z 9\n$\u00e9".charAt(below(9)) + text.substring(at);
        };
    }

    private static void everything(int run, MealLoader loader, Model model, List<String> calls) {
        for (String shape : REPORTS) {
            String[] words = shape.split(" ");
            int first = words.length > 1 ? Integer.parseInt(words[1]) : 1;
            int second = words.length > 2 ? Integer.parseInt(words[2]) : 1;
            for (int i = 0; i < first; i++) {
                for (int k = 0; k < second; k++) {
                    String call = words[0] + (words.length > 1 ? " " + i : "") + (words.length > 2 ? " " + k : "");
                    if (!same(run, loader, model, calls, call)) {
                        return;
                    }
                }
            }
        }
    }
}
