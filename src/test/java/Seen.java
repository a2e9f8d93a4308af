import java.util.ArrayList;
import java.util.Collections;
import java.util.List;

/**
 * All that can be seen of an object behind some calls, as a text: what it reports as it stands, behind each undo, behind
 * restoring each slot, and what its input buffer has. The calls are made anew on new objects, so that looking changes
 * nothing, and that none gets more than the 512 calls after which the document promises nothing.
 */
final class Seen {
    private static final int MOST_CALLS = 512;

    private final List<String> calls;
    private final boolean withReason;
    private final boolean withInput;
    private final StringBuilder text = new StringBuilder();

    private Seen(List<String> calls, boolean withReason, boolean withInput) {
        this.calls = calls;
        this.withReason = withReason;
        this.withInput = withInput;
    }

    /** Without input: the buffer, errorCode() and errorPosition() are left out. */
    static String behind(List<String> calls, boolean withReason, boolean withInput) {
        Seen seen = new Seen(calls, withReason, withInput);
        seen.look(List.of());
        int acts = Integer.parseInt(seen.answer("count 9"));
        for (int undone = 1; undone <= acts; undone++) {
            seen.look(Collections.nCopies(undone, "undo"));
        }
        seen.look(List.of("restore 0"));
        seen.look(List.of("restore 1"));
        if (withInput) {
            seen.lookAtInput();
        }
        return seen.text.toString();
    }

    static String answerBehind(List<String> calls, String call) {
        return new Seen(calls, true, true).answer(call);
    }

    private String answer(String call) {
        return Script.answer(made(List.of()), call);
    }

    private MealLoader made(List<String> more) {
        MealLoader loader = new MealLoader();
        for (String call : calls) {
            Script.answer(loader, call);
        }
        for (String call : more) {
            Script.answer(loader, call);
        }
        return loader;
    }

    /** The length of the buffer is a multiple of 20: only feed() makes it longer. */
    private void lookAtInput() {
        String length = answer("feed 0 0 0 0 0");
        text.append("\nlonger: ").append(length);
        look(List.of("load " + (length.startsWith("throws") ? 900 : Integer.parseInt(length) - 20)));
    }

    private void look(List<String> more) {
        MealLoader loader = made(List.of());
        int made = calls.size() + more.size();
        text.append("\nbehind");
        for (String call : more) {
            text.append(' ').append(call).append(" = ").append(Script.answer(loader, call));
        }
        for (String question : questions(made(more))) {
            if (made >= MOST_CALLS) {
                loader = made(more);
                made = calls.size() + more.size();
            }
            text.append("\n  ").append(question).append(" = ").append(answer(loader, question));
            made++;
        }
    }

    /** The answer to a question on what there is, which throws nothing. */
    private String answer(MealLoader loader, String question) {
        String answer = Script.answer(loader, question);
        if (answer.startsWith("throws.")) {
            Script.tell("behind " + calls + ": " + question + " " + answer);
        }
        return answer;
    }

    private List<String> questions(MealLoader loader) {
        List<String> all = new ArrayList<>(List.of("wasteShare", "wasteBits", "costBits"));
        if (withReason) {
            all.add("reason");
        }
        if (withInput) {
            all.add("errorCode");
            all.add("errorPosition");
        }
        add(all, "count", 1, 12);
        add(all, "account", 1, 6);
        add(all, "outlook", 1, 6);
        add(all, "cabin", loader.count(1), 8);
        add(all, "meal", loader.count(2), 10);
        add(all, "passenger", loader.count(3), 6);
        add(all, "mealFor", 1, loader.count(3));
        add(all, "trolley", loader.count(4), 4);
        add(all, "held", loader.count(4), loader.count(2));
        add(all, "topUpAt", loader.count(6), 3);
        int output = 0;
        while (!Script.answer(loader, "outputByte " + output).startsWith("throws")) {
            output++;
        }
        add(all, "outputByte", 1, output);
        return all;
    }

    /** Questions with two numbers, or with one where there is but one thing. */
    private static void add(List<String> all, String call, int things, int whats) {
        boolean two = List.of("cabin", "meal", "passenger", "trolley", "held", "topUpAt").contains(call);
        for (int thing = 0; thing < things; thing++) {
            for (int what = 0; what < whats; what++) {
                all.add(call + (two ? " " + thing : "") + " " + what);
            }
        }
    }
}
