import java.io.IOException;
import java.nio.file.Files;
import java.nio.file.Path;
import java.util.ArrayList;
import java.util.List;
import java.util.regex.Matcher;
import java.util.regex.Pattern;

/**
 * Makes a program of the example in README.md: the calls just as they are shown there, and once more with each answer
 * compared with the one that the comment behind the call begins with. A line without such a comment is an error, so
 * that nothing can be shown there that is not tested.
 */
public final class ReadmeExample {
    static final String NAME = "ReadmeCalls";
    private static final Pattern MADE = Pattern.compile("ZipForms (\\w+) = new ZipForms\\(\\);");
    private static final Pattern CALL = Pattern.compile("(\\w+\\.\\w+\\([^;]*\\)); +// (-?\\d+|[A-Z]+)(:.*)?");

    public static void main(String[] args) throws IOException {
        List<String> shown = shown(Files.readString(Path.of("README.md")));
        if (shown.isEmpty()) {
            throw new IllegalStateException("README.md shows no example");
        }
        Path out = Path.of(args[0], NAME + ".java");
        Files.write(out, program(shown));
    }

    /** The lines of the only block of Java. */
    static List<String> shown(String readme) {
        List<String> lines = new ArrayList<>();
        Matcher m = Pattern.compile("(?s)```java\n(.*?)```").matcher(readme);
        while (m.find()) {
            lines.addAll(List.of(m.group(1).split("\n")));
        }
        return lines;
    }

    private static List<String> program(List<String> shown) {
        List<String> out = new ArrayList<>();
        out.add("public final class " + NAME + " {");
        out.add("    private static int wrong = 0;");
        out.add("    private static void due(String call, long got, long want) {");
        out.add("        if (got != want) {");
        out.add("            wrong++;");
        out.add("            System.out.println(call + \" answered \" + got + \", README.md says \" + want);");
        out.add("        }");
        out.add("    }");
        out.add("    private static void asShown() {");
        out.addAll(shown);
        out.add("    }");
        out.add("    public static void main(String[] args) {");
        out.add("        asShown();");
        for (String line : shown) {
            out.add(compared(line.strip()));
        }
        out.add("        System.out.println(wrong == 0 ? \"all answers are as README.md says\" : wrong + \" are not\");");
        out.add("        System.exit(wrong == 0 ? 0 : 1);");
        out.add("    }");
        out.add("}");
        return out;
    }

    private static String compared(String line) {
        Matcher call = CALL.matcher(line);
        if (call.matches()) {
            String answer = call.group(2);
            boolean isNumber = Character.isDigit(answer.charAt(answer.length() - 1));
            String want = isNumber ? answer + "L" : "ZipForms." + answer;
            return "        due(\"" + call.group(1) + "\", " + call.group(1) + ", " + want + ");";
        }
        if (line.isEmpty() || MADE.matcher(line).matches()) {
            return line;
        }
        throw new IllegalStateException("README.md shows a line without its answer: " + line);
    }
}
