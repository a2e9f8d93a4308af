import java.io.IOException;
import java.io.UncheckedIOException;
import java.nio.file.Files;
import java.nio.file.Path;
import java.util.LinkedHashMap;
import java.util.Map;

/**
 * A section of the document (a promise, or a part of the description). A test names a sentence of it, or a part of one:
 * it must stand in the section to the letter, and in the end no sentence of the document may be left that no test named.
 */
final class Section {
    private static final Map<String, Section> ALL = read();

    private final String name;
    private final StringBuilder text = new StringBuilder();
    private boolean[] named;

    private Section(String name) {
        this.name = name;
    }

    static Section of(String name) {
        Section section = ALL.get(name);
        if (section == null) {
            Script.tell("the document has no section " + name);
            return new Section(name);
        }
        return section;
    }

    String text() {
        return text.toString();
    }

    /** A test of its own for a sentence: a script that fails if the sentence is broken. */
    void says(String sentence, String lines) {
        names(sentence);
        Script.run(name + " \"" + plain(sentence) + "\"", lines);
    }

    /** Names a sentence for which another test stands, or which asks for nothing. */
    void names(String sentence) {
        String part = plain(sentence);
        int at = text.indexOf(part);
        if (at < 0) {
            Script.tell(name + " does not say: " + part);
        }
        for (int i = at; i >= 0 && i < at + part.length(); i++) {
            letters()[i] = true;
        }
    }

    private boolean[] letters() {
        if (named == null) {
            named = new boolean[text.length()];
        }
        return named;
    }

    /** Tells of each part of the description and of the promises that no test has named. */
    static void checkThatAllAreNamed() {
        int promises = 0;
        for (Section section : ALL.values()) {
            if (section.name.startsWith("Promise") || section.name.startsWith("Description ")) {
                section.checkThatItIsNamed();
                promises += section.name.startsWith("Promise") ? 1 : 0;
            }
        }
        if (promises != 34) {
            Script.tell("the document has " + promises + " promises");
        }
    }

    private void checkThatItIsNamed() {
        StringBuilder left = new StringBuilder();
        for (int i = 0; i < text.length(); i++) {
            boolean matters = Character.isLetterOrDigit(text.charAt(i)) && !letters()[i];
            left.append(matters ? text.charAt(i) : ' ');
        }
        if (!left.toString().isBlank()) {
            Script.tell(name + ", not named by a test: " + plain(left.toString()));
        }
    }

    private static String plain(String some) {
        return some.replace("`", "").replaceAll("\\s+", " ").strip();
    }

    private static Map<String, Section> read() {
        Map<String, Section> sections = new LinkedHashMap<>();
        Section here = new Section("title");
        for (String line : lines()) {
            String title = title(line);
            if (!title.isEmpty()) {
                here = new Section(title);
                sections.put(title, here);
            } else if (!line.startsWith("----") && !isSignature(line, here)) {
                String more = plain(line);
                here.text.append(here.text.length() > 0 && !more.isEmpty() ? " " : "").append(more);
            }
        }
        return sections;
    }

    /** The signatures are compared with the class by FaceTest. */
    private static boolean isSignature(String line, Section here) {
        return here.name.startsWith("Promise") && line.startsWith("`") && line.endsWith("`");
    }

    /** The name of the section that a line begins, or an empty text: "Promise 2", "Description 5". */
    private static String title(String line) {
        if (line.startsWith("## ")) {
            return line.substring(3).split(":")[0];
        }
        return line.matches("[1-6]\\. [A-Z, ]+") ? "Description " + line.charAt(0) : "";
    }

    private static Iterable<String> lines() {
        try {
            return Files.readAllLines(Path.of(System.getProperty("document", "../shared/DOC.md")));
        } catch (IOException e) {
            throw new UncheckedIOException(e);
        }
    }
}
