import java.io.IOException;
import java.lang.reflect.Constructor;
import java.lang.reflect.Field;
import java.lang.reflect.Method;
import java.lang.reflect.Modifier;
import java.nio.file.Files;
import java.nio.file.Path;
import java.util.Arrays;
import java.util.List;
import java.util.Set;
import java.util.TreeSet;

/** The public face, and those rules of LANGUAGE.md that can be seen from outside or by a word. */
public final class FaceTest {
    private static final Due DUE = new Due("face");
    private static final Set<String> FACE = new TreeSet<>(List.of(
            "int type(int)", "int clear()", "int reads()", "int place(int, int)",
            "int lays(int, int, int)", "int sets(int, int)", "int puts(int, int)",
            "int takes(int)", "int moves(int, int)", "int flaw(int, int)", "int room(int)",
            "int nearest(int)", "int pull(int)", "int cheapest(int)", "int spot(int, int)",
            "int through(int)", "int builds()", "int otherwise(int, int)", "long upper()",
            "long lower()", "int all(int)", "int back()", "int told(int)", "long digest()"));

    public static void main(String[] args) throws IOException {
        methods();
        fields();
        classesInside();
        words();
        DUE.end();
    }

    private static String signature(Method m) {
        StringBuilder words = new StringBuilder(m.getReturnType() + " " + m.getName() + "(");
        for (int i = 0; i < m.getParameterCount(); i++) {
            words.append(i == 0 ? "" : ", ").append(m.getParameterTypes()[i]);
        }
        return words.append(")").toString();
    }

    private static void methods() {
        Set<String> open = new TreeSet<>();
        Set<String> names = new TreeSet<>();
        for (Method m : SpanSpotter.class.getDeclaredMethods()) {
            if (!Modifier.isPrivate(m.getModifiers())) {
                open.add(signature(m));
                names.add(m.getName());
                DUE.holds(m + " is public", Modifier.isPublic(m.getModifiers()));
            }
        }
        DUE.holds("the methods are those of the document: " + open, open.equals(FACE));
        for (Class<?> c : allClasses()) {
            for (Method m : c.getDeclaredMethods()) {
                boolean own = c == SpanSpotter.class && Modifier.isPublic(m.getModifiers());
                DUE.holds(m + " bears a name of its own", own || !names.contains(m.getName()));
                DUE.holds(m + " takes at most seven", m.getParameterCount() <= 7);
            }
        }
        Constructor<?>[] made = SpanSpotter.class.getDeclaredConstructors();
        DUE.holds("one public constructor without arguments", made.length == 1
                && made[0].getParameterCount() == 0 && Modifier.isPublic(made[0].getModifiers()));
        DUE.holds("public and final", Modifier.isPublic(SpanSpotter.class.getModifiers())
                && Modifier.isFinal(SpanSpotter.class.getModifiers()));
    }

    private static void fields() {
        Set<String> open = new TreeSet<>();
        for (Class<?> c : allClasses()) {
            int own = 0;
            for (Field f : c.getDeclaredFields()) {
                boolean fixed = Modifier.isStatic(f.getModifiers());
                own += fixed ? 0 : 1;
                DUE.holds(f + " is final if static", !fixed || Modifier.isFinal(f.getModifiers()));
                if (c == SpanSpotter.class && !Modifier.isPrivate(f.getModifiers())) {
                    open.add(f.getName());
                }
            }
            DUE.holds(c + " has at most twenty fields", own <= 20);
        }
        DUE.holds("the constants: " + open, open.equals(Set.of("NONE", "BAD", "NO", "FULL")));
    }

    private static List<Class<?>> allClasses() {
        List<Class<?>> all = new java.util.ArrayList<>(
                Arrays.asList(SpanSpotter.class.getDeclaredClasses()));
        all.add(SpanSpotter.class);
        return all;
    }

    private static void classesInside() {
        DUE.holds("at most twelve classes", allClasses().size() <= 12);
        for (Class<?> c : SpanSpotter.class.getDeclaredClasses()) {
            DUE.holds(c + " is static", Modifier.isStatic(c.getModifiers()));
            DUE.holds(c + " is not open", !Modifier.isPublic(c.getModifiers())
                    && !Modifier.isProtected(c.getModifiers()));
        }
    }

    private static void words() throws IOException {
        String source = Files.readString(Path.of("src/main/java/SpanSpotter.java"));
        String code = source.replaceAll("(?s)/\\*.*?\\*/", " ").replaceAll("//[^\n]*", " ");
        for (String word : List.of("throw", "throws", "try", "catch", "synchronized", "assert",
                "import", "package", "instanceof", "Exact", "System.nanoTime", "Random", "Thread",
                "hashCode", "toString", "->", "::")) {
            boolean there = Character.isLetter(word.charAt(0))
                    ? code.matches("(?s).*\\b" + word.replace(".", "\\.") + "\\b.*")
                    : code.contains(word);
            DUE.holds("no " + word, !there);
        }
        for (char c : source.toCharArray()) {
            if (c > 126) {
                DUE.holds("plain signs alone", false);
            }
        }
    }
}
