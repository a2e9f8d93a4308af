import java.util.ArrayList;
import java.util.List;

/**
 * Long runs of calls, the same on MealLoader and on the Model, which must answer alike. The numbers come from a row
 * that is always the same. No call may throw anything but what the document names (a subclass has another name).
 */
final class CompareTest {
    // Behind a name stand the bounds of its numbers: C cabins, M meals, P passengers, T trolleys, U top-ups.
    private static final String[] REPORTS = {"count 12", "cabin C 8", "meal M 10", "passenger P 6", "trolley T 4",
        "held T M", "topUpAt U 3", "errorCode", "errorPosition", "reason", "outlook 6", "mealFor P", "mealFor P",
        "account 6", "wasteShare", "wasteBits", "costBits", "writeTrolley T", "outputByte 20"};
    private static final String[] ACTS = {"board C 256 0", "board C 8 M", "board C 8 M", "change P C", "change P C",
        "leave P", "setNeeds P 256", "setNeeds P 8", "loadOrder", "store M 12", "store M 4", "store M 4", "store M 2",
        "unload M 4", "topUp M 9", "topUp M 9", "topUp M 9", "advance 30", "advance 6", "undo", "undo", "keep 2"};
    private static final String[] RARE_ACTS = {"serve", "restore 2", "feed 9 9 9 9 9", "advance 600", "store M 99"};

    private static long row = 20261119;

    private static int below(int bound) {
        row = row * 6364136223846793005L + 1442695040888963407L;
        return (int) ((row >>> 33) % bound);
    }

    public static void main(String[] args) {
        int wrongRuns = 0;
        for (int run = 0; run < 1500 && wrongRuns < 3; run++) {
            wrongRuns += compare(run) ? 0 : 1;
        }
        Script.end();
    }

    private static boolean compare(int run) {
        MealLoader loader = new MealLoader();
        Model model = new Model();
        List<String> calls = new ArrayList<>();
        int most = 60 + below(200);
        while (calls.size() < most) {
            if (below(60) == 0 || calls.isEmpty() && below(20) > 0) {
                if (!text(run, loader, model, calls)) {
                    return false;
                }
            }
            String[] shapes = below(12) == 0 ? RARE_ACTS : below(2) == 0 ? ACTS : REPORTS;
            String call = call(shapes[below(shapes.length)], model);
            if (!same(run, loader, model, calls, call)) {
                return false;
            }
        }
        return everything(run, loader, model, calls);
    }

    private static boolean same(int run, MealLoader loader, Model model, List<String> calls, String call) {
        calls.add(call);
        String got = Script.answer(loader, call);
        String want = Script.answer(model, call);
        if (!got.equals(want)) {
            Script.tell("run " + run + ": " + call + ": answered " + got + ", due is " + want + ", behind " + calls);
        }
        return got.equals(want);
    }

    private static int bound(String word, Model model) {
        return switch (word) {
            case "C" -> model.count(1);
            case "M" -> model.count(2);
            case "P" -> model.count(3);
            case "T" -> model.count(4);
            case "U" -> model.count(6);
            default -> Integer.parseInt(word);
        };
    }

    /** A call with numbers below its bounds, and with others now and then. */
    private static String call(String shape, Model model) {
        String[] words = shape.split(" ");
        StringBuilder call = new StringBuilder(words[0]);
        for (int i = 1; i < words.length; i++) {
            int bound = bound(words[i], model);
            int number = bound == 0 ? -1 : below(bound);
            switch (below(40)) {
                case 0 -> number = -1;
                case 1 -> number = bound;
                case 2 -> number = below(2) == 0 ? Integer.MIN_VALUE + below(3) : Integer.MAX_VALUE - below(3);
                default -> { }
            }
            call.append(' ').append(number);
        }
        return call.toString();
    }

    private static boolean text(int run, MealLoader loader, Model model, List<String> calls) {
        String text = below(8) == 0 ? mixed() : flight();
        if (below(6) == 0 && !text.isEmpty()) {
            text = spoiled(text);
        }
        // What stands in the buffer goes first, by an error that leaves the flight.
        same(run, loader, model, calls, "load 1");
        text = text.substring(0, Math.min(text.length(), 900));
        calls.add("feed " + text.replace("\n", "\\n"));
        Script.feedTo(loader, text);
        Script.feedTo(model, text);
        return same(run, loader, model, calls, "load " + text.length())
            && same(run, loader, model, calls, "errorCode") && same(run, loader, model, calls, "errorPosition");
    }

    /** A text without an error, of at most 900 bytes. */
    private static String flight() {
        StringBuilder text = new StringBuilder();
        int cabins = 1 + below(4);
        int meals = 1 + below(12);
        int[] free = new int[cabins];
        int[] home = new int[meals];
        if (below(3) == 0) {
            text.append("time ").append(1 + below(90)).append(' ').append(below(20)).append(';');
        }
        if (below(2) == 0) {
            text.append("lead ").append(below(3) == 0 ? 0 : below(12)).append(';');
        }
        for (int c = 0; c < cabins; c++) {
            free[c] = 1 + below(below(3) == 0 ? 40 : 12);
            text.append("cabin ").append((char) ('a' + c)).append(' ').append(free[c]);
            text.append(below(2) == 0 ? "" : " " + below(51)).append(below(9) == 0 ? ";\n" : ";");
        }
        for (int m = 0; m < meals; m++) {
            home[m] = below(2) == 0 ? -1 : below(cabins);
            text.append("meal ").append((char) ('a' + m));
            if (home[m] < 0) {
                text.append(" special ");
            } else {
                text.append(" menu ").append((char) ('a' + home[m])).append(' ');
                text.append(1 + below(below(2) == 0 ? 4 : 99)).append(' ');
            }
            text.append(1 + below(3)).append(' ').append(1 + below(below(2) == 0 ? 3 : 9999));
            text.append(below(4) == 0 ? "" : " offers " + diets()).append(';');
        }
        for (int t = below(9); t > 0; t--) {
            text.append("trolley ").append((char) ('a' + below(cabins))).append(' ').append(1 + below(40)).append(';');
        }
        guests(text, free, home);
        return text.length() <= 900 ? text.toString() : text.substring(0, text.lastIndexOf(";", 899) + 1);
    }

    private static void guests(StringBuilder text, int[] free, int[] home) {
        int people = 0;
        for (int g = below(40); g > 0; g--) {
            int c = below(free.length);
            int wish = below(home.length);
            int more = 1 + below(3);
            if (free[c] > 0 && people < 40) {
                text.append("guest ").append((char) ('a' + c)).append(below(3) == 0 ? "" : " needs " + diets());
                text.append(home[wish] == c ? " wish " + (char) ('a' + wish) : "").append(';');
                free[c]--;
                people++;
            }
            if (below(6) == 0 && free[c] >= more && people + more <= 40) {
                text.append("guests ").append((char) ('a' + c)).append(' ').append(more).append(';');
                free[c] -= more;
                people += more;
            }
        }
    }

    private static String diets() {
        StringBuilder diets = new StringBuilder();
        for (char diet = 'a'; diet <= 'b' + below(3); diet++) {
            if (below(3) == 0) {
                diets.append(diet);
            }
        }
        return diets.isEmpty() ? "a" : diets.toString();
    }

    private static String mixed() {
        String[] parts = {"time", "lead", "cabin", "meal", "trolley", "guest", "guests", "special", "menu", "offers",
            "needs", "wish", ";", "1", "2", "40", "0041", "a", "b", "a", "abcdef", "abcdefg", "12345", "0", "\n", "A"};
        StringBuilder text = new StringBuilder();
        for (int i = below(30); i > 0; i--) {
            text.append(parts[below(parts.length)]).append(' ');
        }
        return text.toString();
    }

    private static String spoiled(String text) {
        int at = below(text.length());
        return switch (below(3)) {
            case 0 -> text.substring(0, at);
            case 1 -> text.substring(0, at) + text.substring(at + 1);
            default -> text.substring(0, at) + "a1;z 9\n$\u00e9".charAt(below(9)) + text.substring(at);
        };
    }

    private static boolean everything(int run, MealLoader loader, Model model, List<String> calls) {
        for (String shape : REPORTS) {
            String[] words = shape.split(" ");
            int first = words.length > 1 ? bound(words[1], model) : 1;
            int second = words.length > 2 ? bound(words[2], model) : 1;
            for (int i = 0; i < first; i++) {
                for (int k = 0; k < second; k++) {
                    String call = words[0] + (words.length > 1 ? " " + i : "") + (words.length > 2 ? " " + k : "");
                    if (!same(run, loader, model, calls, call)) {
                        return false;
                    }
                }
            }
        }
        return true;
    }
}
