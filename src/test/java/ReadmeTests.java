import java.io.IOException;
import java.lang.reflect.Method;
import java.nio.file.Files;
import java.nio.file.Path;
import java.util.List;
import java.util.Set;
import java.util.TreeSet;
import java.util.regex.Matcher;
import java.util.regex.Pattern;

/** What README.md says that calls answer, line by line, on the object that it makes. */
public final class ReadmeTests {
    private static final Path README = Path.of("README.md");
    private static final Path OWN = Path.of("src/test/java/ReadmeTests.java");
    private static final Pattern MAKING = Pattern.compile("BeanStreet x = new BeanStreet\\(\\);");
    private static final Pattern CALL = Pattern.compile("x\\.(\\w+)\\(([^)]*)\\); +// (-?\\d+)(:.*)?");
    private static final Pattern WRITING = Pattern.compile("write\\(x, \"([^\"]*)\"\\);");
    private static final Check C = new Check();

    private static BeanStreet x = new BeanStreet();
    private static final Set<String> CALLED = new TreeSet<>();

    private ReadmeTests() {
    }

    // As README.md shows it: the test looks whether both are alike.
    static void write(BeanStreet x, String text) {
        for (int from = 0; from < text.length(); from += 20) {
            int[] n = new int[5];
            for (int i = 0; i < 20; i++) {
                int sign = from + i < text.length() ? text.charAt(from + i) : 0;
                n[i / 4] = n[i / 4] << 8 | sign;
            }
            x.feed(n[0], n[1], n[2], n[3], n[4]);
        }
        x.end(text.length());
    }

    private static void call(String line, String name, String numbers, long want) throws ReflectiveOperationException {
        Object[] args = numbers.isEmpty() ? new Object[0]
                : List.of(numbers.split(", *")).stream().map(Integer::decode).toArray();
        Class<?>[] kinds = new Class<?>[args.length];
        java.util.Arrays.fill(kinds, int.class);
        Method method = BeanStreet.class.getMethod(name, kinds);
        CALLED.add(name);
        C.due(line, ((Number) method.invoke(x, args)).longValue(), want);
    }

    private static void run(String line) throws ReflectiveOperationException {
        Matcher call = CALL.matcher(line);
        Matcher writing = WRITING.matcher(line);
        if (MAKING.matcher(line).matches()) {
            x = new BeanStreet();
        } else if (writing.matches()) {
            write(x, writing.group(1));
        } else if (call.matches()) {
            call(line, call.group(1), call.group(2), Long.parseLong(call.group(3)));
        } else {
            C.isTrue(line + " can be read", false);
        }
    }

    private static void block(String text) throws IOException, ReflectiveOperationException {
        if (text.startsWith("static ")) {
            String here = Files.readString(OWN).replaceAll("(?m)^    ", "");
            C.isTrue("write() is as README.md shows it", here.contains("\n" + text));
            return;
        }
        for (String line : text.split("\n")) {
            run(line);
        }
    }

    private static void allCallsAreTold(String readme) {
        for (Method m : BeanStreet.class.getDeclaredMethods()) {
            if (java.lang.reflect.Modifier.isPublic(m.getModifiers())) {
                boolean told = CALLED.contains(m.getName()) || readme.contains("`" + m.getName() + "(");
                C.isTrue(m.getName() + " stands in README.md", told);
            }
        }
    }

    public static void main(String[] args) throws IOException, ReflectiveOperationException {
        String readme = Files.readString(README);
        Matcher blocks = Pattern.compile("(?s)```java\n(.*?)```").matcher(readme);
        while (blocks.find()) {
            block(blocks.group(1));
        }
        allCallsAreTold(readme);
        C.finish();
    }
}
