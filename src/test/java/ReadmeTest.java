import java.io.ByteArrayOutputStream;
import java.io.IOException;
import java.io.PrintStream;
import java.lang.reflect.Method;
import java.lang.reflect.Modifier;
import java.nio.charset.StandardCharsets;
import java.nio.file.Files;
import java.nio.file.Path;
import java.util.ArrayList;
import java.util.Collections;
import java.util.List;
import java.util.regex.Matcher;
import java.util.regex.Pattern;
import java.util.stream.Stream;

/** What README.md shows is so: its program, what that prints, the calls and the files it names. */
final class ReadmeTest {
    private static final Path TESTS = Path.of("src/test/java");
    private static final Check check = new Check();

    private ReadmeTest() {
    }

    public static void main(String[] args) throws IOException {
        String readme = Files.readString(Path.of("README.md"));
        example(readme);
        calls(readme);
        files(readme);
        check.finish();
    }

    private static void example(String readme) throws IOException {
        check.topic("the example");
        check.due("the program", blocks(readme, "java"), List.of(Files.readString(TESTS.resolve("Example.java"))));
        check.due("what it prints", blocks(readme, "text"), List.of(printed()));
    }

    /** What stands between the fences of this kind. */
    private static List<String> blocks(String readme, String kind) {
        List<String> all = new ArrayList<>();
        Matcher m = Pattern.compile("^```" + kind + "\n(.*?)^```$", Pattern.DOTALL | Pattern.MULTILINE).matcher(readme);
        while (m.find()) {
            all.add(m.group(1));
        }
        return all;
    }

    private static String printed() {
        PrintStream before = System.out;
        ByteArrayOutputStream bytes = new ByteArrayOutputStream();
        System.setOut(new PrintStream(bytes, true, StandardCharsets.UTF_8));
        try {
            Example.main(new String[0]);
        } finally {
            System.setOut(before);
        }
        return bytes.toString(StandardCharsets.UTF_8).replace(System.lineSeparator(), "\n");
    }

    private static void calls(String readme) {
        check.topic("the calls");
        for (Method m : BandMill.class.getDeclaredMethods()) {
            if (Modifier.isPublic(m.getModifiers())) {
                String parameters = String.join(", ", Collections.nCopies(m.getParameterCount(), "\\w+"));
                boolean told = Pattern.compile("\\| `" + m.getName() + "\\(" + parameters + "\\)` \\|").matcher(readme)
                        .find();
                check.due(m.getName() + " is told", told, true);
            }
        }
        for (int promise = 1; promise <= 20; promise++) {
            check.due("promise " + promise + " is told", readme.contains(" | " + promise + " |\n"), true);
        }
    }

    private static void files(String readme) throws IOException {
        check.topic("the files");
        Matcher m = Pattern.compile("(src|\\.\\./shared|\\.ci)/[\\w/]+(\\.\\w+)?").matcher(readme);
        while (m.find()) {
            check.due(m.group() + " is there", Files.exists(Path.of(m.group())), true);
        }
        try (Stream<Path> tests = Files.list(TESTS)) {
            tests.filter(test -> test.toString().endsWith("Test.java")).forEach(test -> check.due(
                    test + " is named", readme.contains("`" + TESTS + "/" + test.getFileName() + "`"), true));
        }
    }
}
