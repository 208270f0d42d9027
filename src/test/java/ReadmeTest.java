import java.io.ByteArrayOutputStream;
import java.io.IOException;
import java.io.PrintStream;
import java.lang.reflect.Method;
import java.lang.reflect.Modifier;
import java.nio.charset.StandardCharsets;
import java.nio.file.Files;
import java.nio.file.Path;
import java.util.ArrayList;
import java.util.List;
import java.util.regex.Matcher;
import java.util.regex.Pattern;
import java.util.stream.Stream;

/** README.md: its example is Example.java and answers as it says there, and the files that it names are all there. */
public final class ReadmeTest {
    private static final Path README = Path.of("README.md");
    private static final Path TESTS = Path.of("src/test/java");

    private ReadmeTest() {
    }

    public static void main(String[] args) throws IOException {
        String readme = Files.readString(README);
        example(readme);
        files(readme);
        methods(readme);
        Check.end();
    }

    private static void example(String readme) throws IOException {
        String shown = blockOf(readme);
        Check.same("the example of README.md", shown.strip(), Files.readString(TESTS.resolve("Example.java")).strip());
        List<String> due = answersOf(shown);
        List<String> got = printed();
        Check.same("the answers that README.md tells", due.size() >= 30, true);
        Check.same("how many answers the example prints", got.size(), due.size());
        for (int i = 0; i < Math.min(got.size(), due.size()); i++) {
            Check.same("the printed call " + i + " of README.md", got.get(i), due.get(i));
        }
    }

    private static String blockOf(String readme) {
        Matcher block = Pattern.compile("(?s)\n```java\n(.*?)```\n").matcher(readme);
        Check.same("README.md has an example", block.find(), true);
        String shown = block.group(1);
        Check.same("README.md has another example", block.find(), false);
        return shown;
    }

    /** What stands behind each call that is printed, ahead of the colon if there is one. */
    private static List<String> answersOf(String shown) {
        List<String> answers = new ArrayList<>();
        for (String row : shown.split("\n")) {
            if (row.contains("System.out.println(")) {
                String[] parts = row.split("; +// ", 2);
                Check.same("an answer stands behind" + row, parts.length, 2);
                answers.add(parts[parts.length - 1].split(": ", 2)[0]);
            }
        }
        return answers;
    }

    private static List<String> printed() {
        PrintStream console = System.out;
        ByteArrayOutputStream bytes = new ByteArrayOutputStream();
        System.setOut(new PrintStream(bytes, true, StandardCharsets.UTF_8));
        try {
            Example.main(new String[0]);
        } finally {
            System.setOut(console);
        }
        return bytes.toString(StandardCharsets.UTF_8).lines().toList();
    }

    private static void files(String readme) throws IOException {
        Matcher name = Pattern.compile("(?:src|\\.\\./shared|\\.ci)/[\\w/]+(?:\\.\\w+)?").matcher(readme);
        int count = 0;
        while (name.find()) {
            if (!readme.startsWith("*", name.end()) && !readme.startsWith("...", name.end())) {
                Check.same(name.group() + " is there", Files.exists(Path.of(name.group())), true);
                count++;
            }
        }
        Check.same("README.md names files", count > 0, true);
        try (Stream<Path> tests = Files.list(TESTS)) {
            for (Path test : tests.toList()) {
                String own = test.getFileName().toString().replace(".java", "");
                Check.same("README.md names " + own, readme.contains("`" + own + "`"), true);
            }
        }
    }

    /** README.md names each method, and its example calls each. */
    private static void methods(String readme) {
        for (Method method : CheeseTwins.class.getDeclaredMethods()) {
            if (Modifier.isPublic(method.getModifiers())) {
                Check.same("README.md names " + method.getName(), readme.contains("`" + method.getName() + "`"), true);
                Check.same("the example calls " + method.getName(), readme.contains("board." + method.getName() + "("), true);
            }
        }
    }
}
