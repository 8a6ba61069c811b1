import java.io.IOException;
import java.lang.reflect.Method;
import java.nio.file.DirectoryStream;
import java.nio.file.Files;
import java.nio.file.Path;

/** Every test by sentence quotes words that stand in the document, and every promise has tests by its number. */
public final class SentencesTest {
    private static final int PROMISES = 28;
    private static int wrong = 0;

    private static void hold(boolean holds, String what) {
        if (!holds) {
            wrong++;
            System.out.println("not so: " + what);
        }
    }

    public static void main(String[] args) throws IOException, ClassNotFoundException {
        Path file = Path.of("../shared/DOC.md");
        if (!Files.isReadable(file)) {
            System.out.println("the document is not here: no sentence can be looked up");
            return;
        }
        String document = Files.readString(file);
        int[] tests = new int[PROMISES + 1];
        try (DirectoryStream<Path> files = Files.newDirectoryStream(Path.of("src/test/java"), "*Test.java")) {
            for (Path test : files) {
                String name = test.getFileName().toString().replace(".java", "");
                for (Method m : Class.forName(name).getDeclaredMethods()) {
                    Script.Says says = m.getAnnotation(Script.Says.class);
                    if (says == null) continue;
                    for (String words : says.value()) hold(document.contains(words), m.getName() + " quotes the document: " + words);
                    if (m.getName().matches("p[0-9][0-9]_.*")) tests[Integer.parseInt(m.getName().substring(1, 3))]++;
                }
            }
        }
        for (int promise = 1; promise <= PROMISES; promise++) {
            hold(tests[promise] > 0, "promise " + promise + " has a test by sentence");
            hold(document.contains("## Promise " + promise + ": "), "the document has promise " + promise);
        }
        System.out.println(wrong == 0 ? "all sentences stand in the document" : wrong + " sentences or promises are missing");
        if (wrong != 0) System.exit(1);
    }
}
