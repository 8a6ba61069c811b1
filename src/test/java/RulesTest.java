import java.io.IOException;
import java.lang.management.ManagementFactory;
import java.lang.reflect.Constructor;
import java.lang.reflect.Field;
import java.lang.reflect.Method;
import java.lang.reflect.Modifier;
import java.nio.file.Files;
import java.nio.file.Path;
import java.util.Set;
import java.util.TreeSet;
import java.util.regex.Matcher;
import java.util.regex.Pattern;

/** The face, the rules of LANGUAGE.md that can be seen in the source, and how much room the calls take. */
public final class RulesTest {
    private static final String[] FACE = {"type(int)", "clear()", "band()", "player(int,int)", "span(int)",
        "chord(int,int)", "puts(int,int,int,int)", "takes(int)", "calls(int)", "tells(int,int)", "undo()",
        "could(int,int,int)", "spreads(int)", "score(int)", "hand(int,int)", "loud(int,int)", "couldRest(int)",
        "move(int,int)", "reach()", "fewest()", "bear()", "hears(int,int)", "forget()", "ill()", "keep(int)",
        "back(int)", "count(int)"};
    private static final String TEXT = "b 0 60 9 12;b 0 60 8 12;r 0 60 7;g 0 60 6;"
        + "n1 2 3;n2 4 5;n1 2 4;n1 2 3;n4 5 6;n1 2 3;n2 3 4;n1 3 5;";
    private static final int METHOD_LINES = 60, PARAMETERS = 7, CLASSES = 12, FIELDS = 20;
    private static int wrong = 0;

    private static void hold(boolean holds, String rule) {
        if (!holds) {
            wrong++;
            System.out.println("not so: " + rule);
        }
    }

    private static void face() {
        Class<?> c = ChordSpreads.class;
        hold(Modifier.isPublic(c.getModifiers()) && Modifier.isFinal(c.getModifiers()), "the class is public and final");
        Set<String> methods = new TreeSet<>();
        Set<String> names = new TreeSet<>();
        for (Method m : c.getDeclaredMethods()) {
            if (Modifier.isPrivate(m.getModifiers())) continue;
            hold(m.getReturnType() == int.class && Modifier.isPublic(m.getModifiers()) && !Modifier.isStatic(m.getModifiers()),
                m.getName() + " is public and answers an int");
            methods.add(m.toString().replaceAll(".*ChordSpreads\\.", ""));
            names.add(m.getName());
        }
        hold(methods.equals(new TreeSet<>(Set.of(FACE))), "the methods are those of the document, not " + methods);
        for (Constructor<?> k : c.getDeclaredConstructors()) {
            hold(Modifier.isPublic(k.getModifiers()) && k.getParameterCount() == 0, "one public constructor");
        }
        Set<String> constants = new TreeSet<>();
        for (Field f : c.getDeclaredFields()) {
            if (!Modifier.isPrivate(f.getModifiers())) constants.add(f.toString());
        }
        hold(constants.size() == 4, "four constants are public, not " + constants);
        hold(c.getDeclaredClasses().length < CLASSES, "at most " + CLASSES + " classes");
        members(c, names);
        for (Class<?> inner : c.getDeclaredClasses()) {
            hold(Modifier.isStatic(inner.getModifiers()), inner + " is static");
            members(inner, names);
        }
    }

    private static void members(Class<?> c, Set<String> publicNames) {
        int fields = 0;
        for (Field f : c.getDeclaredFields()) {
            if (Modifier.isStatic(f.getModifiers())) hold(Modifier.isFinal(f.getModifiers()), f + " is final");
            else fields++;
        }
        hold(fields <= FIELDS, c + " has at most " + FIELDS + " fields");
        for (Method m : c.getDeclaredMethods()) {
            hold(m.getParameterCount() <= PARAMETERS, m + " has at most " + PARAMETERS + " parameters");
            boolean own = c == ChordSpreads.class && !Modifier.isPrivate(m.getModifiers());
            hold(own || !publicNames.contains(m.getName()), m + " bears no public name");
        }
    }

    private static void source(String source) {
        String code = source.replaceAll("(?s)/\\*.*?\\*/", "").replaceAll("//[^\n]*", "");
        String[] words = {"package", "import", "throw", "throws", "try", "catch", "synchronized", "assert", "Object",
            "protected", "hashCode", "toString", "double", "float", "System", "Exception"};
        for (String word : words) {
            hold(!Pattern.compile("\\b" + word + "\\b").matcher(code).find(), "the source has no " + word);
        }
        hold(!code.contains("->") && !code.contains("::"), "the source has no lambda and no method reference");
        hold(!code.contains("Exact("), "no function whose name ends in Exact");
        Matcher m = Pattern.compile("(?m)^( +)[^\\s].*\\) \\{\n(?:.*\n)*?\\1\\}\n").matcher(code);
        while (m.find()) {
            hold(m.group().split("\n").length <= METHOD_LINES, "short enough: " + m.group().split("\n")[0].trim());
        }
    }

    private static void allCalls(ChordSpreads x, int i) {
        if (i % 10 == 0) {
            for (int j = 0; j < TEXT.length(); j++) x.type(TEXT.charAt(j));
            hold(x.band() == 12, "the text has 12 items");
        }
        x.tells(i % 21, 30);
        x.puts(i % 8, i % 40, 41, 43);
        x.spreads(i % 8);
        x.score(0);
        x.fewest();
        x.bear();
        x.reach();
        x.hears(0, 1);
        x.ill();
        x.couldRest(0);
        x.keep(0);
        x.back(0);
        x.undo();
    }

    /** Every row is made with the object: calls make nothing, however many there are. */
    private static void room() {
        com.sun.management.ThreadMXBean threads = (com.sun.management.ThreadMXBean) ManagementFactory.getThreadMXBean();
        long self = Thread.currentThread().getId();
        allCalls(new ChordSpreads(), 0);
        threads.getThreadAllocatedBytes(self);
        long before = threads.getThreadAllocatedBytes(self);
        ChordSpreads x = new ChordSpreads();
        long made = threads.getThreadAllocatedBytes(self);
        for (int i = 0; i < 30; i++) allCalls(x, i);
        long called = threads.getThreadAllocatedBytes(self);
        hold(made - before < 65_536, "an object takes less than 64 KiB, not " + (made - before));
        hold(called - made < 8_192, "calls make no objects, not " + (called - made) + " bytes");
    }

    public static void main(String[] args) throws IOException {
        face();
        source(Files.readString(Path.of("src/main/java/ChordSpreads.java")));
        room();
        System.out.println(wrong == 0 ? "all rules hold" : wrong + " rules do not hold");
        if (wrong != 0) System.exit(1);
    }
}
