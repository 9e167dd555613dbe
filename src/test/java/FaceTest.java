import java.io.IOException;
import java.lang.reflect.Constructor;
import java.lang.reflect.Field;
import java.lang.reflect.Method;
import java.lang.reflect.Modifier;
import java.nio.file.Files;
import java.nio.file.Path;
import java.util.Set;
import java.util.TreeSet;
import java.util.regex.Pattern;

/** The face is the document's, no more and no less; the source keeps to what LANGUAGE.md leaves. */
public final class FaceTest {
    private static final Check CHECK = new Check("FaceTest");

    private static final Set<String> METHODS = Set.of(
            "int point(int, int, int)", "int pop(int)", "int set(int, int, int, int)", "int rule(int, int)",
            "int move(int, int, int)", "int back(int)", "int begin(int, int)", "int at(int, int, int)",
            "long raw(int, int, int)", "long cover(int, int, int)", "long together(int, int)",
            "long area(int, int)", "int enough(int, int, int)", "int field(int)", "int best(int, int)",
            "int same(int, int)", "int image(int)", "int restore(int)", "int count(int)");

    private static final Set<String> CONSTANTS = Set.of(
            "int UNKNOWN", "int OUTSIDE", "int STATE", "int FULL", "int NO", "int NONE", "long BELOW");

    public static void main(String[] args) throws IOException {
        theClass();
        theConstants();
        theClassesInside();
        theSource();
        CHECK.end();
    }

    private static void theClass() {
        Class<?> face = DotCover.class;
        CHECK.holds("public and final", Modifier.isPublic(face.getModifiers()) && Modifier.isFinal(face.getModifiers()));
        Set<String> methods = new TreeSet<>();
        Set<String> hidden = new TreeSet<>();
        for (Method m : face.getDeclaredMethods()) {
            if (Modifier.isPrivate(m.getModifiers())) {
                hidden.add(m.getName());
            } else {
                methods.add(written(m));
            }
        }
        CHECK.holds("methods " + methods, methods.equals(METHODS));
        Set<String> names = new TreeSet<>();
        for (Method m : face.getMethods()) {
            names.add(m.getName());
        }
        names.retainAll(hidden);
        CHECK.holds("private methods with a public name " + names, names.isEmpty());
        CHECK.due("constructors", face.getDeclaredConstructors().length, 1);
        for (Constructor<?> c : face.getDeclaredConstructors()) {
            CHECK.holds("public constructor without arguments", Modifier.isPublic(c.getModifiers()) && c.getParameterCount() == 0);
        }
    }

    private static String written(Method m) {
        StringBuilder text = new StringBuilder(m.getReturnType() + " " + m.getName() + "(");
        Class<?>[] types = m.getParameterTypes();
        for (int i = 0; i < types.length; i++) {
            text.append(i == 0 ? "" : ", ").append(types[i]);
        }
        return text.append(")").toString();
    }

    private static void theConstants() {
        Set<String> constants = new TreeSet<>();
        for (Field f : DotCover.class.getDeclaredFields()) {
            int how = f.getModifiers();
            if (!Modifier.isPrivate(how)) {
                CHECK.holds(f + " is a constant", Modifier.isPublic(how) && Modifier.isStatic(how));
                constants.add(f.getType() + " " + f.getName());
            }
        }
        CHECK.holds("constants " + constants, constants.equals(CONSTANTS));
        CHECK.due("UNKNOWN", DotCover.UNKNOWN, -1);
        CHECK.due("OUTSIDE", DotCover.OUTSIDE, -2);
        CHECK.due("STATE", DotCover.STATE, -3);
        CHECK.due("FULL", DotCover.FULL, -4);
        CHECK.due("NO", DotCover.NO, -5);
        CHECK.due("NONE", DotCover.NONE, -6);
        CHECK.due("BELOW", DotCover.BELOW, -1_000_000_000_000_000_000L);
    }

    /** Rules 1, 2, 5 and 11 of LANGUAGE.md, for the class and those inside it. */
    private static void theClassesInside() {
        Class<?>[] inside = DotCover.class.getDeclaredClasses();
        CHECK.holds("at most twelve classes", inside.length < 12);
        keepsToTheRules(DotCover.class);
        for (Class<?> one : inside) {
            CHECK.holds(one + " is static", Modifier.isStatic(one.getModifiers()));
            CHECK.holds(one + " is private or package-visible",
                    !Modifier.isPublic(one.getModifiers()) && !Modifier.isProtected(one.getModifiers()));
            CHECK.due(one + ", classes inside", one.getDeclaredClasses().length, 0);
            for (Method m : one.getDeclaredMethods()) {
                boolean free = METHODS.stream().noneMatch(call -> call.contains(" " + m.getName() + "("));
                CHECK.holds(m + " bears no public name", free);
            }
            keepsToTheRules(one);
        }
    }

    private static void keepsToTheRules(Class<?> one) {
        int fields = 0;
        for (Field f : one.getDeclaredFields()) {
            boolean shared = Modifier.isStatic(f.getModifiers());
            fields += shared ? 0 : 1;
            CHECK.holds(f + " is no static state", !shared || Modifier.isFinal(f.getModifiers()) && f.getType().isPrimitive());
        }
        CHECK.holds(one + " has at most twenty fields", fields <= 20);
        for (Method m : one.getDeclaredMethods()) {
            CHECK.holds(m + " takes at most seven", m.getParameterCount() <= 7);
            CHECK.holds(m + " has no name that javac makes", !m.isSynthetic());
        }
    }

    private static void theSource() throws IOException {
        String source = Files.readString(Path.of("src/main/java/DotCover.java"));
        String code = source.replaceAll("(?s)/\\*.*?\\*/", " ").replaceAll("//[^\n]*", " ");
        for (String word : new String[] {"throw", "throws", "try", "catch", "synchronized", "assert", "import",
                "package", "equals", "hashCode", "toString", "protected", "while", "var", "System", "Object"}) {
            CHECK.holds("no " + word, !Pattern.compile("\\b" + word + "\\b").matcher(code).find());
        }
        CHECK.holds("no lambda", !code.contains("->"));
        CHECK.holds("no method reference", !code.contains("::"));
        CHECK.holds("no Exact", !code.contains("Exact"));
        CHECK.holds("signs of ASCII alone", source.chars().allMatch(sign -> sign < 128));
    }
}
