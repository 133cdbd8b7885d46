import java.io.IOException;
import java.lang.reflect.Constructor;
import java.lang.reflect.Field;
import java.lang.reflect.Method;
import java.lang.reflect.Modifier;
import java.nio.file.Files;
import java.nio.file.Path;
import java.util.ArrayList;
import java.util.Arrays;
import java.util.HashSet;
import java.util.List;
import java.util.Set;
import java.util.TreeSet;
import java.util.regex.Pattern;

/** The public face of the document and no other member, and those rules of LANGUAGE.md that a text tells. */
public final class FaceTest {
    private static final Due DUE = new Due();
    private static final String[] METHODS = {
        "int feed(long, int)", "int fill(int, int)", "int again(int, int)", "int mix(int, int)",
        "int change(int, int)", "int keep(int)", "int option(int, int)", "int pack()",
        "int skip(int, int, int)", "int give(long, int)", "int alter(int, int)", "int cut(int)",
        "int read()", "int place()", "int count(int)", "int octet(int, int)",
        "int sequence(int, int)", "long hash(int, int, int, int)", "int differs()"};

    public static void main(String[] args) throws IOException {
        members();
        nestedClasses();
        source();
        DUE.end();
    }

    private static void members() {
        Class<?> face = SequenceFrames.class;
        DUE.holds("public final", Modifier.isPublic(face.getModifiers()) && Modifier.isFinal(face.getModifiers()));
        Set<String> methods = new TreeSet<>();
        for (Method m : face.getDeclaredMethods()) {
            if (Modifier.isPrivate(m.getModifiers())) {
                continue;
            }
            DUE.holds(m + " is public and no more", m.getModifiers() == Modifier.PUBLIC);
            List<String> types = new ArrayList<>();
            for (Class<?> type : m.getParameterTypes()) {
                types.add(type.getName());
            }
            methods.add(m.getReturnType() + " " + m.getName() + "(" + String.join(", ", types) + ")");
        }
        DUE.holds("methods are those of the document: " + methods, methods.equals(new TreeSet<>(Arrays.asList(METHODS))));
        Set<String> fields = new TreeSet<>();
        for (Field f : face.getDeclaredFields()) {
            if (!Modifier.isPrivate(f.getModifiers())) {
                DUE.is(f.getName(), f.getModifiers(), Modifier.PUBLIC | Modifier.STATIC | Modifier.FINAL);
                fields.add(f.getType() + " " + f.getName());
            }
        }
        DUE.holds("constants are those of the document", fields.equals(Set.of("int NONE", "int FULL")));
        DUE.is("NONE", SequenceFrames.NONE, -1);
        DUE.is("FULL", SequenceFrames.FULL, -2);
        Constructor<?>[] constructors = face.getDeclaredConstructors();
        DUE.is("constructors", constructors.length, 1);
        DUE.is("its parameters", constructors[0].getParameterCount(), 0);
        DUE.is("it is public", constructors[0].getModifiers(), Modifier.PUBLIC);
    }

    private static void nestedClasses() {
        Set<String> publicNames = new HashSet<>();
        for (String method : METHODS) {
            publicNames.add(method.substring(method.indexOf(' ') + 1, method.indexOf('(')));
        }
        Class<?>[] nested = SequenceFrames.class.getDeclaredClasses();
        DUE.holds("at most twelve classes", nested.length < 12);
        for (Class<?> c : nested) {
            DUE.holds(c + " is static", Modifier.isStatic(c.getModifiers()));
            DUE.holds(c + " is not public", (c.getModifiers() & (Modifier.PUBLIC | Modifier.PROTECTED)) == 0);
            for (Method m : c.getDeclaredMethods()) {
                DUE.holds(m + " has a name of its own", !publicNames.contains(m.getName()));
                DUE.holds(m + " has at most seven parameters", m.getParameterCount() <= 7);
            }
            int fields = 0;
            for (Field f : c.getDeclaredFields()) {
                fields += Modifier.isStatic(f.getModifiers()) ? 0 : 1;
                DUE.holds(f + " is final if static", !Modifier.isStatic(f.getModifiers()) || Modifier.isFinal(f.getModifiers()));
            }
            DUE.holds(c + " has at most twenty fields", fields <= 20);
        }
    }

    private static void source() throws IOException {
        String text = Files.readString(Path.of("src/main/java/SequenceFrames.java"));
        String code = Pattern.compile("/\\*.*?\\*/|//[^\n]*", Pattern.DOTALL).matcher(text).replaceAll("");
        String[] forbidden = {"\\bthrow\\b", "\\btry\\b", "\\bcatch\\b", "\\bsynchronized\\b", "\\bassert\\b", "->", "::",
            "\\bpackage\\b", "Exact\\b", "\\bequals\\b", "\\bhashCode\\b", "\\btoString\\b", "\\bstatic\\s*\\{"};
        for (String word : forbidden) {
            DUE.holds("no " + word, !Pattern.compile(word).matcher(code).find());
        }
    }
}
