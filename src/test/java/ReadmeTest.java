import java.io.IOException;
import java.lang.reflect.Method;
import java.lang.reflect.Modifier;
import java.nio.file.DirectoryStream;
import java.nio.file.Files;
import java.nio.file.Path;
import java.util.ArrayList;
import java.util.List;
import java.util.regex.Matcher;
import java.util.regex.Pattern;

/** README.md says how to use the class: every call is named, what its example says is so, every test is named. */
public final class ReadmeTest {
    private static final Pattern TEXT = Pattern.compile("for \\(char letter : \"(.*)\"\\.toCharArray\\(\\)\\) x\\.type\\(letter\\);");
    private static final Pattern CALL = Pattern.compile("x\\.(\\w+\\(.*\\)); +// (\\w+|-\\d+): .*");
    private static final int CALLS_OF_THE_EXAMPLE = 15;
    private static int wrong = 0;

    private static void hold(boolean holds, String what) {
        if (!holds) {
            wrong++;
            System.out.println("not so: " + what);
        }
    }

    /** The call as README.md writes it: only how many numbers it takes is held, their names are free. */
    private static void callsAreNamed(String readme) {
        for (Method m : ChordSpreads.class.getDeclaredMethods()) {
            if (!Modifier.isPublic(m.getModifiers())) continue;
            int numbers = m.getParameterCount();
            String row = "\\| `" + m.getName() + "\\(" + (numbers == 0 ? "" : "\\w+(, \\w+){" + (numbers - 1) + "}") + "\\)` \\|";
            hold(Pattern.compile(row).matcher(readme).find(), "README.md has a row for " + m.getName() + " with " + numbers + " numbers");
        }
        for (String constant : List.of("`BAD` (-1", "`STATE` (-2", "`FULL` (-3", "`NONE` (-9")) {
            hold(readme.contains(constant), "README.md tells " + constant + ")");
        }
    }

    private static String example(String readme) {
        int start = readme.indexOf("```java\n");
        int end = readme.indexOf("\n```\n", start + 1);
        hold(start >= 0 && end > start, "README.md has an example");
        return start >= 0 && end > start ? readme.substring(start + 8, end) : "";
    }

    /** Every line behind the first is the text or a call with its answer; they are run as a test by sentence is. */
    @Script.Says("The public face")
    static void exampleIsSo() throws IOException {
        List<String> lines = new ArrayList<>();
        String[] written = example(Files.readString(Path.of("README.md"))).split("\n");
        for (int i = 1; i < written.length; i++) {
            Matcher text = TEXT.matcher(written[i]);
            Matcher call = CALL.matcher(written[i]);
            if (text.matches()) lines.add("text '" + text.group(1) + "'");
            else if (call.matches()) lines.add(call.group(1) + " = " + call.group(2));
            else Script.wrong("a line of the example tells no answer: " + written[i]);
        }
        if (lines.size() < CALLS_OF_THE_EXAMPLE) Script.wrong("the example is short: " + lines);
        Script.run(lines.toArray(new String[0]));
    }

    private static void testsAreNamed(String readme) throws IOException {
        try (DirectoryStream<Path> files = Files.newDirectoryStream(Path.of("src/test/java"), "*.java")) {
            for (Path file : files) {
                String name = file.getFileName().toString().replace(".java", "");
                hold(readme.contains("`" + name + "`"), "README.md names " + name);
            }
        }
        hold(readme.contains("`.ci/run`"), "README.md names .ci/run");
    }

    public static void main(String[] args) throws IOException {
        String readme = Files.readString(Path.of("README.md"));
        callsAreNamed(readme);
        testsAreNamed(readme);
        System.out.println(wrong == 0 ? "README.md names all" : wrong + " things are missing in README.md");
        if (wrong != 0) System.exit(1);
        Script.runAll(ReadmeTest.class);
    }
}
