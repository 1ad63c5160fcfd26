import java.io.IOException;
import java.lang.reflect.Method;
import java.lang.reflect.Modifier;
import java.nio.file.Files;
import java.nio.file.Path;
import java.util.Set;
import java.util.TreeSet;
import java.util.regex.Matcher;
import java.util.regex.Pattern;

/** README.md leaves out no call of the face, and its example tells what the calls answer. */
public final class ReadmeTest {
    private static final Pattern MADE =
        Pattern.compile("^PairSorter x = new PairSorter\\((\\d+)\\);$", Pattern.MULTILINE);
    private static final Pattern CALL =
        Pattern.compile("^x\\.(\\w+)\\(([-0-9, ]*)\\);(?: +// (\\w+).*)?$", Pattern.MULTILINE);

    private static Method methodOf(String name) {
        for (Method method : PairSorter.class.getDeclaredMethods()) {
            if (method.getName().equals(name)) {
                return method;
            }
        }
        throw new IllegalArgumentException("README.md calls " + name + ", which is not there");
    }

    private static Object[] numbersOf(String text) {
        if (text.isEmpty()) {
            return new Object[0];
        }
        String[] parts = text.split(", ");
        Object[] numbers = new Object[parts.length];
        for (int i = 0; i < parts.length; i++) {
            numbers[i] = Integer.valueOf(parts[i]);
        }
        return numbers;
    }

    private static Set<String> followExample(String readme) throws ReflectiveOperationException {
        Set<String> called = new TreeSet<>();
        Matcher made = MADE.matcher(readme);
        Check.due("README.md makes an object", made.find(), true);
        PairSorter x = new PairSorter(Integer.parseInt(made.group(1)));
        Matcher call = CALL.matcher(readme);
        while (call.find()) {
            Object answer = methodOf(call.group(1)).invoke(x, numbersOf(call.group(2)));
            // A call without an answer has none in README.md either.
            if (!String.valueOf(answer).equals(String.valueOf(call.group(3)))) {
                Check.due("README.md: " + call.group() + " answered " + answer, false, true);
            }
            called.add(call.group(1));
        }
        return called;
    }

    public static void main(String[] args) throws IOException, ReflectiveOperationException {
        String readme = Files.readString(Path.of("README.md"));
        Set<String> called = followExample(readme);
        Check.due("README.md tells of the constructor", readme.contains("| `PairSorter("), true);
        for (Method method : PairSorter.class.getDeclaredMethods()) {
            String name = method.getName();
            if (Modifier.isPublic(method.getModifiers())) {
                Check.due("README.md tells of " + name, readme.contains("| `" + name + "("), true);
                Check.due("README.md has an example of " + name, called.contains(name), true);
            }
        }
        Check.end("README.md is as the class is");
    }
}
