import java.lang.reflect.Constructor;
import java.lang.reflect.Field;
import java.lang.reflect.Member;
import java.lang.reflect.Method;
import java.lang.reflect.Modifier;
import java.util.Arrays;
import java.util.Set;
import java.util.TreeSet;
import java.util.regex.Matcher;
import java.util.regex.Pattern;

/** The public face of the document is the face of the class: nothing is missing, and nothing else can be seen of it. */
final class FaceTest {
    private static final Pattern METHOD = Pattern.compile("public (\\w+) (\\w+)\\(([^)]*)\\)(?: throws ([\\w, ]+))?;");

    public static void main(String[] args) {
        String face = Section.of("The public face").text();
        Set<String> due = new TreeSet<>(Set.of("new()", "int NONE"));
        Matcher method = METHOD.matcher(face);
        while (method.find()) {
            String thrown = method.group(4) == null ? "" : method.group(4);
            due.add(told(method.group(1), method.group(2), types(method.group(3)), thrown.split(", ")));
        }
        if (due.size() != 35 || !face.contains("public MealLoader();") || !face.contains("public final class MealLoader")) {
            Script.tell("the face of the document is read wrongly: " + due);
        }
        compare(seen(), due);
        if (!Modifier.isFinal(MealLoader.class.getModifiers()) || !Modifier.isPublic(MealLoader.class.getModifiers())) {
            Script.tell("the class is not public and final");
        }
        Script.end();
    }

    private static void compare(Set<String> seen, Set<String> due) {
        for (String one : due) {
            if (!seen.contains(one)) {
                Script.tell("the class lacks " + one);
            }
        }
        for (String one : seen) {
            if (!due.contains(one)) {
                Script.tell("the document does not tell of " + one);
            }
        }
    }

    private static Set<String> seen() {
        Set<String> seen = new TreeSet<>();
        for (Constructor<?> made : MealLoader.class.getDeclaredConstructors()) {
            addSeen(seen, made, "new" + (made.getParameterCount() == 0 ? "()" : "(..)"));
        }
        for (Field field : MealLoader.class.getDeclaredFields()) {
            addSeen(seen, field, field.getType().getSimpleName() + " " + field.getName());
        }
        for (Method method : MealLoader.class.getDeclaredMethods()) {
            addSeen(seen, method, told(method.getReturnType().getSimpleName(), method.getName(),
                names(method.getParameterTypes()), names(method.getExceptionTypes())));
        }
        return seen;
    }

    private static void addSeen(Set<String> seen, Member member, String told) {
        if (!Modifier.isPrivate(member.getModifiers()) && !member.isSynthetic()) {
            seen.add((Modifier.isPublic(member.getModifiers()) ? "" : "not public: ") + told);
        }
    }

    private static String told(String answer, String name, String[] types, String[] thrown) {
        Set<String> sorted = new TreeSet<>(Arrays.asList(thrown));
        sorted.remove("");
        return answer + " " + name + Arrays.toString(types) + " throws " + sorted;
    }

    private static String[] names(Class<?>[] types) {
        return Arrays.stream(types).map(Class::getSimpleName).toArray(String[]::new);
    }

    /** The types of "int a, int b". */
    private static String[] types(String parameters) {
        return parameters.isEmpty() ? new String[0] : Arrays.stream(parameters.split(", ")).map(p -> p.split(" ")[0])
            .toArray(String[]::new);
    }
}
