import java.io.IOException;
import java.lang.reflect.Method;
import java.nio.file.Files;
import java.nio.file.Path;
import java.util.Set;
import java.util.TreeSet;
import java.util.regex.Matcher;
import java.util.regex.Pattern;

/** The README's example answers what the README says, and the README names every call. */
public final class ReadmeTest {
    private static final Check CHECK = new Check("ReadmeTest");
    private static final Pattern CALL = Pattern.compile("(?m)^x\\.(\\w+)\\(([-\\d, ]*)\\);\\s*// (-?\\d+)");
    private static final Pattern NAMED = Pattern.compile("(?m)^\\| `(\\w+)\\(");

    public static void main(String[] args) throws IOException, ReflectiveOperationException {
        String readme = Files.readString(Path.of("README.md"));
        DotCover x = new DotCover();
        int calls = 0;
        for (Matcher m = CALL.matcher(readme); m.find();) {
            CHECK.due(m.group(), answer(x, m.group(1), m.group(2)), Long.parseLong(m.group(3)));
            calls++;
        }
        CHECK.holds("calls in the example: " + calls, calls >= 10);
        Set<String> named = new TreeSet<>();
        for (Matcher m = NAMED.matcher(readme); m.find();) {
            named.add(m.group(1));
        }
        Set<String> face = new TreeSet<>();
        for (Method method : DotCover.class.getMethods()) {
            if (method.getDeclaringClass() == DotCover.class) {
                face.add(method.getName());
            }
        }
        CHECK.holds("calls named " + named + ", calls there are " + face, named.equals(face));
        CHECK.end();
    }

    private static long answer(DotCover x, String name, String written) throws ReflectiveOperationException {
        String[] numbers = written.split(", ");
        Object[] given = new Object[numbers.length];
        Class<?>[] types = new Class<?>[numbers.length];
        for (int i = 0; i < numbers.length; i++) {
            given[i] = Integer.valueOf(numbers[i]);
            types[i] = int.class;
        }
        return ((Number) DotCover.class.getMethod(name, types).invoke(x, given)).longValue();
    }
}
