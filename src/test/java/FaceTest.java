import java.io.IOException;
import java.lang.reflect.Field;
import java.lang.reflect.Method;
import java.lang.reflect.Modifier;
import java.nio.file.Files;
import java.nio.file.Path;
import java.util.Set;
import java.util.TreeSet;
import java.util.regex.Matcher;
import java.util.regex.Pattern;

/** The public face is the document's, and the source has none of the words that LANGUAGE.md leaves out. */
public final class FaceTest {
    private static final String[] FACE = {
        "int entry(int,int,long,int)", "int name(int,long,int)", "int data(int,long,int)", "int packed(int,int,int)",
        "int part(int,int,long,int)", "int stamp(int,int,int,int,int)", "int attributes(int,int)", "int clear()",
        "int comment(long,int)", "int write()", "int add(int)", "int read()", "int place()", "int feed(long,int)",
        "int cut(int)", "int poke(int,int)", "int at(int)", "int half(int)", "long word(int)", "int about(int,int)",
        "int letter(int,int)", "int octet(int,int)", "long size(int,int)", "int extra(int,int,int,int)",
        "int right(int)", "int same(int)", "int told(int)"};

    public static void main(String[] args) throws IOException {
        constants();
        methods();
        fields();
        words();
        Check.end();
    }

    private static void constants() {
        Check.due("NONE", ZipForms.NONE, -1);
        Check.due("UNKNOWN", ZipForms.UNKNOWN, -2);
        Check.due("OUTSIDE", ZipForms.OUTSIDE, -3);
        Check.due("STATE", ZipForms.STATE, -4);
        Check.due("FULL", ZipForms.FULL, -5);
    }

    private static void methods() {
        Set<String> face = new TreeSet<>(Set.of(FACE));
        Set<String> publicNames = new TreeSet<>();
        Set<String> privateNames = new TreeSet<>();
        for (Method m : ZipForms.class.getDeclaredMethods()) {
            if (Modifier.isPublic(m.getModifiers())) {
                String sign = m.getReturnType() + " " + m.toString().replaceAll(".*ZipForms\\.", "");
                Check.due("in the face: " + sign, face.remove(sign) ? 1 : 0, 1);
                publicNames.add(m.getName());
            } else {
                Check.due("private: " + m, Modifier.isPrivate(m.getModifiers()) ? 1 : 0, 1);
                privateNames.add(m.getName());
            }
        }
        Check.due("missing: " + face, face.size(), 0);
        for (Class<?> c : ZipForms.class.getDeclaredClasses()) {
            Check.due("static: " + c, Modifier.isStatic(c.getModifiers()) ? 1 : 0, 1);
            for (Method m : c.getDeclaredMethods()) {
                privateNames.add(m.getName());
            }
        }
        privateNames.retainAll(publicNames);
        Check.due("names twice: " + privateNames, privateNames.size(), 0);
        Check.due("constructors", ZipForms.class.getDeclaredConstructors().length, 1);
        Check.due("final", Modifier.isFinal(ZipForms.class.getModifiers()) ? 1 : 0, 1);
    }

    private static void fields() {
        Set<String> dueFields = new TreeSet<>(Set.of("NONE", "UNKNOWN", "OUTSIDE", "STATE", "FULL"));
        for (Field f : ZipForms.class.getDeclaredFields()) {
            if (!Modifier.isPrivate(f.getModifiers())) {
                Check.due("a constant of the face: " + f, dueFields.remove(f.getName()) ? 1 : 0, 1);
            }
            if (Modifier.isStatic(f.getModifiers())) {
                Check.due("final: " + f, Modifier.isFinal(f.getModifiers()) ? 1 : 0, 1);
            }
        }
        Check.due("missing: " + dueFields, dueFields.size(), 0);
    }

    private static void words() throws IOException {
        String source = Files.readString(Path.of("src/main/java/ZipForms.java"));
        String code = source.replaceAll("(?s)/\\*.*?\\*/", "").replaceAll("//[^\n]*", "");
        Matcher m = Pattern.compile("\\b(throw|throws|try|catch|finally|synchronized|assert|import|package|->)\\b|::")
            .matcher(code);
        while (m.find()) {
            Check.due("a word that is left out: " + m.group(), 1, 0);
        }
    }
}
