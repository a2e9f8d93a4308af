import java.io.ByteArrayOutputStream;
import java.io.IOException;
import java.io.PrintStream;
import java.nio.file.Files;
import java.nio.file.Path;
import java.util.ArrayList;
import java.util.List;
import java.util.regex.Matcher;
import java.util.regex.Pattern;

/** What README.md tells of the calls, of the example and of the tests is as it is. */
final class ReadmeTest {
    private static final Path PROJECT = Path.of(System.getProperty("project", "."));
    private static final Path TESTS = PROJECT.resolve("src/test/java");
    private static final Pattern CALL = Pattern.compile("(?m)^\\| `(\\w+\\([\\w, ]*\\))` \\|");
    private static final Pattern METHOD = Pattern.compile("public \\w+ (\\w+\\([^)]*\\))(?: throws [\\w, ]+)?;");

    public static void main(String[] args) throws IOException {
        String page = Files.readString(PROJECT.resolve("README.md"));
        example(page);
        calls(page);
        acts(page);
        tests(page);
        Script.end();
    }

    private static void example(String page) throws IOException {
        same("the example", block(page, "java"), Files.readString(TESTS.resolve("Example.java")));
        PrintStream usual = System.out;
        ByteArrayOutputStream printed = new ByteArrayOutputStream();
        System.setOut(new PrintStream(printed));
        Example.main(new String[0]);
        System.out.flush();
        System.setOut(usual);
        same("what the example prints", block(page, "text"), printed.toString().replace(System.lineSeparator(), "\n"));
    }

    /** The tables of calls have each method of the document once, with its parameters. */
    private static void calls(String page) {
        List<String> due = found(METHOD, Section.of("The public face").text().replaceAll("\\bint (?=\\w+[,)])", ""));
        same("the calls", sorted(found(CALL, page)), sorted(due));
    }

    /** The acts are those that promise 30 tells; the calls that ask stand above them. */
    private static void acts(String page) {
        String acts = between(page, "### Which calls act", "These change the object, too");
        List<String> due = found(Pattern.compile("(\\w+)\\(\\)"), Section.of("Promise 30").text());
        due.remove("reason");
        same("the acts", sorted(names(found(CALL, acts))), sorted(due));
        String asking = between(page, "### Which calls ask", "### Which calls act");
        List<String> numbers = names(found(CALL, asking));
        same("the number of calls that ask", "" + numbers.size(), "17");
    }

    private static void tests(String page) throws IOException {
        String named = between(page, "What the tests are:", "");
        try (var files = Files.list(TESTS)) {
            for (Path file : (Iterable<Path>) files::iterator) {
                String name = file.getFileName().toString().replace(".java", "");
                if (!named.contains("`" + name + "`") && !named.contains("`" + name + ".java`")) {
                    Script.tell("README.md does not tell what " + name + " is");
                }
            }
        }
    }

    private static String block(String page, String kind) {
        return between(page, "```" + kind + "\n", "```");
    }

    private static String between(String page, String before, String behind) {
        int start = page.indexOf(before) + before.length();
        int end = behind.isEmpty() ? page.length() : page.indexOf(behind, start);
        if (!page.contains(before) || end < 0) {
            Script.tell("README.md has no " + before.strip());
            return "";
        }
        return page.substring(start, end);
    }

    private static List<String> found(Pattern pattern, String text) {
        List<String> all = new ArrayList<>();
        Matcher matcher = pattern.matcher(text);
        while (matcher.find()) {
            all.add(matcher.group(1));
        }
        return all;
    }

    private static List<String> names(List<String> calls) {
        return new ArrayList<>(calls.stream().map(call -> call.substring(0, call.indexOf('('))).toList());
    }

    private static String sorted(List<String> some) {
        return some.stream().sorted().toList().toString();
    }

    private static void same(String what, String told, String due) {
        if (!told.equals(due)) {
            Script.tell("README.md, " + what + ": it tells " + told + ", due is " + due);
        }
    }
}
