import java.io.IOException;
import java.lang.reflect.Method;
import java.lang.reflect.Modifier;
import java.nio.file.Files;
import java.nio.file.Path;
import java.util.HashMap;
import java.util.List;
import java.util.Map;
import java.util.regex.Matcher;
import java.util.regex.Pattern;
import java.util.stream.Stream;

/** README.md tells every call, constant, KIND and test; its example is compiled and run by .ci/run. */
public final class ReadmeTest {
    private static String readme;

    public static void main(String[] args) throws IOException {
        readme = Files.readString(Path.of("README.md"));
        calls();
        constants();
        kinds();
        tests();
        example();
        Check.end();
    }

    /** The calls of the tables are the face's, each once and with as many arguments. */
    private static void calls() {
        Map<String, Integer> told = new HashMap<>();
        Matcher m = Pattern.compile("(?m)^\\| `(\\w+)\\(([^)]*)\\)` \\|").matcher(readme);
        while (m.find()) {
            int arguments = m.group(2).isEmpty() ? 0 : m.group(2).split(", ").length;
            Check.due("told once: " + m.group(1), told.put(m.group(1), arguments) == null ? 1 : 0, 1);
        }
        for (Method call : ZipForms.class.getDeclaredMethods()) {
            if (Modifier.isPublic(call.getModifiers())) {
                Integer arguments = told.remove(call.getName());
                Check.due("told: " + call.getName(), arguments == null ? 0 : 1, 1);
                Check.due("arguments of " + call.getName(), arguments == null ? -1 : arguments, call.getParameterCount());
            }
        }
        Check.due("told, but not there: " + told, told.size(), 0);
    }

    private static void constants() {
        String[] due = {"`NONE` (" + ZipForms.NONE + ")", "`UNKNOWN` (" + ZipForms.UNKNOWN + ":",
            "`OUTSIDE` (" + ZipForms.OUTSIDE + ":", "`STATE` (" + ZipForms.STATE + ")", "`FULL` (" + ZipForms.FULL + ")"};
        for (String constant : due) {
            Check.due("told: " + constant, readme.contains(constant) ? 1 : 0, 1);
        }
    }

    private static void kinds() {
        for (int kind = 1; kind <= 10; kind++) {
            Check.due("told: KIND " + kind, readme.contains("\n| " + kind + " | ") ? 1 : 0, 1);
        }
    }

    private static void tests() throws IOException {
        List<Path> files;
        try (Stream<Path> all = Files.list(Path.of("src/test/java"))) {
            files = all.toList();
        }
        Check.due("there are tests", files.size() > 10 ? 1 : 0, 1);
        for (Path file : files) {
            String name = file.getFileName().toString().replace(".java", "");
            Check.due("told: " + name, readme.contains("`" + name + "`") ? 1 : 0, 1);
        }
        Matcher m = Pattern.compile("`(\\w+Test)`").matcher(readme);
        while (m.find()) {
            Check.due("is there: " + m.group(1), Files.exists(Path.of("src/test/java", m.group(1) + ".java")) ? 1 : 0, 1);
        }
    }

    /** It has a refusal, a FAULT of the machine of each sort and one of reading. */
    private static void example() {
        String shown = String.join("\n", ReadmeExample.shown(readme));
        for (String answer : new String[] {"NONE", "UNKNOWN", "OUTSIDE", "-31", "-32", "-33", "-17"}) {
            Check.due("shown: " + answer, shown.contains("// " + answer + ":") ? 1 : 0, 1);
        }
    }
}
