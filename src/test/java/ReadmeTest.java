import java.io.IOException;
import java.lang.reflect.Method;
import java.lang.reflect.Modifier;
import java.nio.ByteBuffer;
import java.nio.charset.StandardCharsets;
import java.nio.file.DirectoryStream;
import java.nio.file.Files;
import java.nio.file.Path;
import java.util.Arrays;
import java.util.HashSet;
import java.util.List;
import java.util.Set;
import java.util.regex.Matcher;
import java.util.regex.Pattern;

/** README.md tells how to use the class: its rows of calls, one behind the other, answer as it says. */
public final class ReadmeTest {
    private static final Checks CHECKS = new Checks("ReadmeTest");
    private static final Path README = Path.of("README.md");
    private static final Path TESTS = Path.of("src/test/java");
    private static final Pattern ROW = Pattern.compile("x\\.(\\w+)\\(([^)]*)\\);\\s+// (-?\\d+).*");

    public static void main(String[] args) throws IOException, ReflectiveOperationException {
        List<String> page = Files.readAllLines(README);
        OneOfEach x = new OneOfEach();
        CHECKS.due("tell", tell(x, block(page, "```text")), 8);
        rows(x, page);
        CHECKS.same("the way to tell a text", block(page, "static int tell").strip(), ownTell());
        testsAreNamed(String.join("\n", page));
        CHECKS.end();
    }

    static int tell(OneOfEach x, String text) {
        byte[] bytes = Arrays.copyOf(text.getBytes(StandardCharsets.ISO_8859_1), (text.length() + 19) / 20 * 20);
        ByteBuffer ints = ByteBuffer.wrap(bytes);
        while (ints.hasRemaining()) {
            x.feed(ints.getInt(), ints.getInt(), ints.getInt(), ints.getInt(), ints.getInt());
        }
        return x.shop(text.length());
    }

    /** What stands behind a first line, up to the end of its block. */
    private static String block(List<String> page, String first) {
        StringBuilder block = new StringBuilder();
        boolean within = false;
        for (String line : page) {
            if (within && line.equals("```")) {
                return block.toString();
            }
            if (within) {
                block.append(line.strip()).append('\n');
            }
            within |= line.startsWith(first);
        }
        return block.toString();
    }

    private static String ownTell() throws IOException {
        StringBuilder own = new StringBuilder();
        boolean within = false;
        for (String line : Files.readAllLines(TESTS.resolve("ReadmeTest.java"))) {
            if (within) {
                own.append(line.strip()).append('\n');
            }
            if (within && line.equals("    }")) {
                break;
            }
            within |= line.startsWith("    static int tell");
        }
        return own.toString().strip();
    }

    private static void rows(OneOfEach x, List<String> page) throws ReflectiveOperationException {
        // feed and shop are called by tell.
        Set<String> called = new HashSet<>(List.of("feed", "shop"));
        for (String line : page) {
            Matcher row = ROW.matcher(line);
            if (line.startsWith("x.")) {
                CHECKS.same("a row with its answer: " + line, Boolean.toString(row.matches()), "true");
            }
            if (row.matches()) {
                called.add(row.group(1));
                CHECKS.same(line, answer(x, row.group(1), row.group(2)), row.group(3));
            }
        }
        for (Method method : OneOfEach.class.getDeclaredMethods()) {
            if (Modifier.isPublic(method.getModifiers())) {
                CHECKS.same("a row of " + method.getName(), Boolean.toString(called.contains(method.getName())), "true");
            }
        }
    }

    private static String answer(OneOfEach x, String name, String told) throws ReflectiveOperationException {
        String[] words = told.isEmpty() ? new String[0] : told.split(", ");
        for (Method method : OneOfEach.class.getDeclaredMethods()) {
            if (method.getName().equals(name) && Modifier.isPublic(method.getModifiers())) {
                Object[] numbers = new Object[words.length];
                for (int i = 0; i < words.length; i++) {
                    if (method.getParameterTypes()[i] == long.class) {
                        numbers[i] = Long.valueOf(words[i]);
                    } else {
                        numbers[i] = Integer.valueOf(words[i]);
                    }
                }
                return String.valueOf(method.invoke(x, numbers));
            }
        }
        return "nothing, as there is no such call";
    }

    private static void testsAreNamed(String page) throws IOException {
        try (DirectoryStream<Path> tests = Files.newDirectoryStream(TESTS, "*Test.java")) {
            for (Path test : tests) {
                String name = test.getFileName().toString().replace(".java", "");
                CHECKS.same("the page names " + name, Boolean.toString(page.contains("`" + name + "`")), "true");
            }
        }
    }
}
