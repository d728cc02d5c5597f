import java.io.IOException;
import java.lang.reflect.Constructor;
import java.lang.reflect.Field;
import java.lang.reflect.Method;
import java.lang.reflect.Modifier;
import java.nio.file.Files;
import java.nio.file.Path;
import java.util.Arrays;
import java.util.Set;
import java.util.TreeSet;
import java.util.regex.Matcher;
import java.util.regex.Pattern;

/** The face of the document, and those rules of LANGUAGE.md that the text of the class shows. */
public final class FaceTests {
    private static final String[] FACE = {
        "int beans(int,int)", "int houses()", "int code(int)", "int house(int)", "int terms(int,int)",
        "int feed(int,int,int,int,int)", "int end(int)", "int row()", "int law()", "int fault()", "int force(int)",
        "int wall(int,int)", "int breach(int,int)", "int step(int,int,int)", "int far(int,int,int)",
        "int way(int,int,int)", "int reach(int,int)", "int read(int,int)", "int parted(int,int)",
        "long rows(int,int,int)", "int round(int)", "int swapIf(int,int)", "int keep(int)", "int sorts(int)",
        "int sorted(int)", "int clue(int,int)", "int forget()", "int fits(int)", "int ask(int)",
        "int post(int,int,int,int)", "int drunk(int,int,int)", "int drawn(int)", "int image(int)", "int back(int)",
        "int count(int)", "int status()"};

    private static final Check C = new Check();

    private FaceTests() {
    }

    private static void face() {
        Set<String> due = new TreeSet<>(Arrays.asList(FACE));
        Set<String> names = new TreeSet<>();
        Set<String> got = new TreeSet<>();
        for (Method m : BeanStreet.class.getDeclaredMethods()) {
            if (Modifier.isPublic(m.getModifiers())) {
                StringBuilder b = new StringBuilder();
                for (Class<?> p : m.getParameterTypes()) {
                    b.append(b.length() == 0 ? "" : ",").append(p);
                }
                got.add(m.getReturnType() + " " + m.getName() + "(" + b + ")");
                names.add(m.getName());
                C.isTrue(m + " is no static one", !Modifier.isStatic(m.getModifiers()));
            }
        }
        C.isTrue("the face is " + got, got.equals(due));
        privateBut(names);
        C.isTrue("public and final", Modifier.toString(BeanStreet.class.getModifiers()).equals("public final"));
    }

    private static void privateBut(Set<String> names) {
        for (Method m : BeanStreet.class.getDeclaredMethods()) {
            if (!Modifier.isPublic(m.getModifiers())) {
                C.isTrue(m + " is private", Modifier.isPrivate(m.getModifiers()));
                C.isTrue(m + " has a name of its own", !names.contains(m.getName()));
            }
        }
        for (Field f : BeanStreet.class.getDeclaredFields()) {
            C.isTrue(f + " is private", Modifier.isPrivate(f.getModifiers()) || f.getName().equals("NONE"));
        }
        for (Constructor<?> c : BeanStreet.class.getDeclaredConstructors()) {
            C.isTrue(c + " is the one", Modifier.isPublic(c.getModifiers()) && c.getParameterCount() == 0);
        }
        Class<?>[] inside = BeanStreet.class.getDeclaredClasses();
        C.isTrue("twelve classes at most", inside.length < 12);
        for (Class<?> kind : inside) {
            C.isTrue(kind + " is static", Modifier.isStatic(kind.getModifiers()));
            int fields = 0;
            for (Field f : kind.getDeclaredFields()) {
                fields += Modifier.isStatic(f.getModifiers()) ? 0 : 1;
                C.isTrue(f + " is final if static",
                        !Modifier.isStatic(f.getModifiers()) || Modifier.isFinal(f.getModifiers()));
            }
            C.isTrue(kind + " has " + fields + " fields", fields <= 20);
            for (Method m : kind.getDeclaredMethods()) {
                C.isTrue(m + " has a name of its own", !names.contains(m.getName()));
                C.isTrue(m + " takes seven at most", m.getParameterCount() <= 7);
            }
        }
    }

    private static void text() throws IOException {
        String raw = Files.readString(Path.of("src/main/java/BeanStreet.java"));
        for (int i = 0; i < raw.length(); i++) {
            if (raw.charAt(i) > 126) {
                C.isTrue("sign " + i + " is plain", false);
            }
        }
        String code = raw.replaceAll("(?s)/\\*.*?\\*/", "").replaceAll("//[^\n]*", "");
        String[] out = {"throw", "throws", "try", "catch", "finally", "synchronized", "assert", "package", "new Random",
            "System.nanoTime", "System.out", "Exact", "instanceof", "equals", "hashCode", "toString", "native"};
        for (String word : out) {
            C.isTrue("no " + word, !Pattern.compile("\\b" + Pattern.quote(word) + "\\b").matcher(code).find());
        }
        C.isTrue("no lambda", !code.contains("->") && !code.contains("::"));
        C.isTrue("no loop without an end", !code.contains("while (true)") && !code.contains("for (;;"));
        Matcher imports = Pattern.compile("import ([^;]+);").matcher(code);
        while (imports.find()) {
            C.isTrue("import " + imports.group(1), imports.group(1).equals("java.util.Arrays"));
        }
        Matcher library = Pattern.compile("\\b(Arrays|System|Math)\\.(\\w+)").matcher(code);
        Set<String> known = Set.of("fill", "copyOf", "arraycopy", "max", "min");
        while (library.find()) {
            C.isTrue(library.group() + " is allowed", known.contains(library.group(2)));
        }
        methodLengths(raw);
    }

    private static void methodLengths(String raw) {
        String[] lines = raw.split("\n");
        for (int i = 0; i < lines.length; i++) {
            if (lines[i].matches("( {4}| {8})[a-zA-Z].*\\) \\{") && !lines[i].matches(" *(if|for|while|switch).*")) {
                String close = lines[i].replaceAll("\\S.*", "") + "}";
                int end = i;
                while (!lines[end].equals(close)) {
                    end++;
                }
                C.isTrue(lines[i].trim() + " has " + (end - i + 1) + " lines", end - i < 60);
            }
        }
    }

    public static void main(String[] args) throws IOException {
        face();
        text();
        C.due("NONE", BeanStreet.NONE, -1);
        C.finish();
    }
}
