import java.io.IOException;
import java.lang.reflect.Field;
import java.lang.reflect.Method;
import java.lang.reflect.Modifier;
import java.nio.file.Files;
import java.nio.file.Path;
import java.util.Set;
import java.util.TreeSet;
import java.util.regex.Matcher;
import java.util.regex.Pattern;

/** The public face is the document's, and the class and its source are as LANGUAGE.md wants them. */
public final class FaceTest {
    private static final String[] FACE = {
        "int entry(int,int,long,int)", "int name(int,long,int)", "int data(int,long,int)", "int packed(int,int,int)",
        "int part(int,int,long,int)", "int stamp(int,int,int,int,int)", "int attributes(int,int)", "int clear()",
        "int comment(long,int)", "int write()", "int add(int)", "int read()", "int place()", "int feed(long,int)",
        "int cut(int)", "int poke(int,int)", "int at(int)", "int half(int)", "long word(int)", "int about(int,int)",
        "int letter(int,int)", "int octet(int,int)", "long size(int,int)", "int extra(int,int,int,int)",
        "int right(int)", "int same(int)", "int told(int)"};

    public static void main(String[] args) throws IOException {
        constants();
        methods();
        fields();
        counts();
        words();
        Check.end();
    }

    private static void constants() {
        Check.due("NONE", ZipForms.NONE, -1);
        Check.due("UNKNOWN", ZipForms.UNKNOWN, -2);
        Check.due("OUTSIDE", ZipForms.OUTSIDE, -3);
        Check.due("STATE", ZipForms.STATE, -4);
        Check.due("FULL", ZipForms.FULL, -5);
    }

    private static void methods() {
        Set<String> face = new TreeSet<>(Set.of(FACE));
        Set<String> publicNames = new TreeSet<>();
        Set<String> privateNames = new TreeSet<>();
        for (Method m : ZipForms.class.getDeclaredMethods()) {
            if (Modifier.isPublic(m.getModifiers())) {
                String sign = m.getReturnType() + " " + m.toString().replaceAll(".*ZipForms\\.", "");
                Check.due("in the face: " + sign, face.remove(sign) ? 1 : 0, 1);
                publicNames.add(m.getName());
            } else {
                Check.due("private: " + m, Modifier.isPrivate(m.getModifiers()) ? 1 : 0, 1);
                privateNames.add(m.getName());
            }
        }
        Check.due("missing: " + face, face.size(), 0);
        for (Class<?> c : ZipForms.class.getDeclaredClasses()) {
            Check.due("static: " + c, Modifier.isStatic(c.getModifiers()) ? 1 : 0, 1);
            for (Method m : c.getDeclaredMethods()) {
                privateNames.add(m.getName());
            }
        }
        privateNames.retainAll(publicNames);
        Check.due("names twice: " + privateNames, privateNames.size(), 0);
        Check.due("constructors", ZipForms.class.getDeclaredConstructors().length, 1);
        Check.due("final", Modifier.isFinal(ZipForms.class.getModifiers()) ? 1 : 0, 1);
    }

    private static void fields() {
        Set<String> dueFields = new TreeSet<>(Set.of("NONE", "UNKNOWN", "OUTSIDE", "STATE", "FULL"));
        for (Field f : ZipForms.class.getDeclaredFields()) {
            if (!Modifier.isPrivate(f.getModifiers())) {
                Check.due("a constant of the face: " + f, dueFields.remove(f.getName()) ? 1 : 0, 1);
            }
            if (Modifier.isStatic(f.getModifiers())) {
                Check.due("final: " + f, Modifier.isFinal(f.getModifiers()) ? 1 : 0, 1);
            }
        }
        Check.due("missing: " + dueFields, dueFields.size(), 0);
    }

    /** Numbers of LANGUAGE.md, rule 11. */
    private static void counts() {
        Class<?>[] inside = ZipForms.class.getDeclaredClasses();
        Check.due("classes: " + inside.length, inside.length < 12 ? 1 : 0, 1);
        for (Class<?> c : inside) {
            Check.due("neither public nor protected: " + c,
                c.getModifiers() & (Modifier.PUBLIC | Modifier.PROTECTED), 0);
            counts(c);
        }
        counts(ZipForms.class);
    }

    private static void counts(Class<?> c) {
        int fields = 0;
        for (Field f : c.getDeclaredFields()) {
            fields += Modifier.isStatic(f.getModifiers()) ? 0 : 1;
        }
        Check.due("fields of " + c + ": " + fields, fields <= 20 ? 1 : 0, 1);
        for (Method m : c.getDeclaredMethods()) {
            Check.due("parameters of " + m, m.getParameterCount() <= 7 ? 1 : 0, 1);
        }
    }

    private static void words() throws IOException {
        String source = Files.readString(Path.of("src/main/java/ZipForms.java"));
        String code = source.replaceAll("(?s)/\\*.*?\\*/", "").replaceAll("//[^\n]*", "");
        none(code, "\\b(throw|throws|try|catch|finally|synchronized|assert|import|package|volatile|native|double|float)\\b");
        none(code, "->|::|\"");
        ownTypes(code);
        // The objects of all calls of a run share one room, so every one is made by a constructor.
        none(code.replaceAll("(?m)^    (    )?(private )?final [^;]* = new [^;]*;", "")
            .replaceAll("(?m)^ *(entries|rows)\\[i\\] = new (Entry|Row)\\(\\);", ""), "\\bnew\\b");
        methodsAreShort(code);
    }

    private static void none(String code, String left) {
        Matcher m = Pattern.compile(left).matcher(code);
        while (m.find()) {
            Check.due("what is left out: " + m.group(), 1, 0);
        }
    }

    /** No class of the library is used at all. */
    private static void ownTypes(String code) {
        Set<String> own = new TreeSet<>(Set.of("ZipForms"));
        for (Class<?> c : ZipForms.class.getDeclaredClasses()) {
            own.add(c.getSimpleName());
        }
        Matcher m = Pattern.compile("\\b[A-Z][A-Za-z]*[a-z][A-Za-z]*\\b").matcher(code);
        while (m.find()) {
            Check.due("a class of its own: " + m.group(), own.contains(m.group()) ? 1 : 0, 1);
        }
    }

    private static void methodsAreShort(String code) {
        String[] lines = code.split("\n");
        int methods = 0;
        for (int i = 0; i < lines.length; i++) {
            String indent = lines[i].replaceAll("\\S.*", "");
            boolean isMethod = lines[i].matches(" {4}( {4})?\\w[\\w\\[\\] ]*\\(.*\\) \\{")
                && !lines[i].matches(" *(if|for|while|switch) .*");
            int end = i;
            while (isMethod && end < lines.length && !lines[end].equals(indent + "}")) {
                end++;
            }
            methods += isMethod ? 1 : 0;
            Check.due("short: " + lines[i], end - i <= 60 ? 1 : 0, 1);
        }
        Check.due("methods were found", methods > 80 ? 1 : 0, 1);
    }
}
