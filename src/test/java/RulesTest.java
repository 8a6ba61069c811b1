import com.sun.source.tree.CompilationUnitTree;
import com.sun.source.tree.ExpressionTree;
import com.sun.source.tree.MemberSelectTree;
import com.sun.source.tree.MethodInvocationTree;
import com.sun.source.tree.MethodTree;
import com.sun.source.util.JavacTask;
import com.sun.source.util.TreeScanner;
import java.io.IOException;
import java.lang.management.ManagementFactory;
import java.lang.reflect.Constructor;
import java.lang.reflect.Field;
import java.lang.reflect.Method;
import java.lang.reflect.Modifier;
import java.nio.file.Files;
import java.nio.file.Path;
import java.util.HashSet;
import java.util.List;
import java.util.Map;
import java.util.Set;
import java.util.TreeMap;
import java.util.TreeSet;
import java.util.regex.Matcher;
import java.util.regex.Pattern;
import javax.tools.JavaCompiler;
import javax.tools.StandardJavaFileManager;
import javax.tools.ToolProvider;

/** The face, the rules of LANGUAGE.md that can be seen in the source, and how much room the calls take. */
public final class RulesTest {
    private static final String[] FACE = {"type(int)", "clear()", "band()", "player(int,int)", "span(int)",
        "chord(int,int)", "puts(int,int,int,int)", "takes(int)", "calls(int)", "tells(int,int)", "undo()",
        "could(int,int,int)", "spreads(int)", "score(int)", "hand(int,int)", "loud(int,int)", "couldRest(int)",
        "move(int,int)", "reach()", "fewest()", "bear()", "hears(int,int)", "forget()", "ill()", "keep(int)",
        "back(int)", "count(int)"};
    private static final String TEXT = "b 0 60 9 12;b 0 60 8 12;r 0 60 7;g 0 60 6;"
        + "n1 2 3;n2 4 5;n1 2 4;n1 2 3;n4 5 6;n1 2 3;n2 3 4;n1 3 5;";
    private static final int METHOD_LINES = 60, PARAMETERS = 7, CLASSES = 12, FIELDS = 20, DEEP = 8;
    private static int wrong = 0;

    private static void hold(boolean holds, String rule) {
        if (!holds) {
            wrong++;
            System.out.println("not so: " + rule);
        }
    }

    private static void face() {
        Class<?> c = ChordSpreads.class;
        hold(Modifier.isPublic(c.getModifiers()) && Modifier.isFinal(c.getModifiers()), "the class is public and final");
        Set<String> methods = new TreeSet<>();
        Set<String> names = new TreeSet<>();
        for (Method m : c.getDeclaredMethods()) {
            if (Modifier.isPrivate(m.getModifiers())) continue;
            hold(m.getReturnType() == int.class && Modifier.isPublic(m.getModifiers()) && !Modifier.isStatic(m.getModifiers()),
                m.getName() + " is public and answers an int");
            methods.add(m.toString().replaceAll(".*ChordSpreads\\.", ""));
            names.add(m.getName());
        }
        hold(methods.equals(new TreeSet<>(Set.of(FACE))), "the methods are those of the document, not " + methods);
        for (Constructor<?> k : c.getDeclaredConstructors()) {
            hold(Modifier.isPublic(k.getModifiers()) && k.getParameterCount() == 0, "one public constructor");
        }
        Set<String> constants = new TreeSet<>();
        for (Field f : c.getDeclaredFields()) {
            if (!Modifier.isPrivate(f.getModifiers())) constants.add(f.toString());
        }
        hold(constants.size() == 4, "four constants are public, not " + constants);
        hold(c.getDeclaredClasses().length < CLASSES, "at most " + CLASSES + " classes");
        members(c, names);
        for (Class<?> inner : c.getDeclaredClasses()) {
            hold(Modifier.isStatic(inner.getModifiers()), inner + " is static");
            members(inner, names);
        }
    }

    private static void members(Class<?> c, Set<String> publicNames) {
        int fields = 0;
        for (Field f : c.getDeclaredFields()) {
            if (Modifier.isStatic(f.getModifiers())) hold(Modifier.isFinal(f.getModifiers()), f + " is final");
            else fields++;
        }
        hold(fields <= FIELDS, c + " has at most " + FIELDS + " fields");
        for (Method m : c.getDeclaredMethods()) {
            hold(m.getParameterCount() <= PARAMETERS, m + " has at most " + PARAMETERS + " parameters");
            boolean own = c == ChordSpreads.class && !Modifier.isPrivate(m.getModifiers());
            hold(own || !publicNames.contains(m.getName()), m + " bears no public name");
        }
    }

    private static void source(String source) {
        String code = source.replaceAll("(?s)/\\*.*?\\*/", "").replaceAll("//[^\n]*", "");
        String[] words = {"package", "import", "throw", "throws", "try", "catch", "synchronized", "assert", "Object",
            "protected", "hashCode", "toString", "double", "float", "System", "Exception"};
        for (String word : words) {
            hold(!Pattern.compile("\\b" + word + "\\b").matcher(code).find(), "the source has no " + word);
        }
        hold(!code.contains("->") && !code.contains("::"), "the source has no lambda and no method reference");
        hold(!code.contains("Exact("), "no function whose name ends in Exact");
        Matcher m = Pattern.compile("(?m)^( +)[^\\s].*\\) \\{\n(?:.*\n)*?\\1\\}\n").matcher(code);
        while (m.find()) {
            hold(m.group().split("\n").length <= METHOD_LINES, "short enough: " + m.group().split("\n")[0].trim());
        }
    }

    /** Which methods a method calls, both by name and how many arguments they take. */
    private static final class Calls extends TreeScanner<Void, String> {
        final Map<String, Set<String>> of = new TreeMap<>();

        @Override
        public Void visitMethod(MethodTree method, String outer) {
            String name = method.getName() + "/" + method.getParameters().size();
            of.computeIfAbsent(name, none -> new TreeSet<>());
            return super.visitMethod(method, name);
        }

        @Override
        public Void visitMethodInvocation(MethodInvocationTree call, String caller) {
            ExpressionTree called = call.getMethodSelect();
            String name = called instanceof MemberSelectTree m ? m.getIdentifier().toString() : called.toString();
            if (caller != null) of.get(caller).add(name + "/" + call.getArguments().size());
            return super.visitMethodInvocation(call, caller);
        }

        /** The class has no recursion, so a method that is open already is a fault too. */
        int depth(String method, Set<String> open) {
            if (!open.add(method)) return 1000;
            int most = 0;
            for (String called : of.get(method)) {
                if (of.containsKey(called)) most = Math.max(most, depth(called, open));
            }
            open.remove(method);
            return most + 1;
        }
    }

    private static void depth(Path source) throws IOException {
        JavaCompiler compiler = ToolProvider.getSystemJavaCompiler();
        try (StandardJavaFileManager files = compiler.getStandardFileManager(null, null, null)) {
            JavacTask task = (JavacTask) compiler.getTask(null, files, null, List.of("-proc:none"), null, files.getJavaFileObjects(source));
            Calls calls = new Calls();
            for (CompilationUnitTree unit : task.parse()) calls.scan(unit, null);
            hold(calls.of.size() >= FACE.length, "the source's methods are seen");
            for (String method : calls.of.keySet()) {
                int deep = calls.depth(method, new HashSet<>());
                hold(deep <= DEEP, "calls go at most " + DEEP + " deep, not " + deep + " from " + method);
            }
        }
    }

    private static void allCalls(ChordSpreads x, int i) {
        if (i % 10 == 0) {
            for (int j = 0; j < TEXT.length(); j++) x.type(TEXT.charAt(j));
            hold(x.band() == 12, "the text has 12 items");
        }
        x.tells(i % 21, 30);
        x.puts(i % 8, i % 40, 41, 43);
        x.spreads(i % 8);
        x.score(0);
        x.fewest();
        x.bear();
        x.reach();
        x.hears(0, 1);
        x.ill();
        x.couldRest(0);
        x.keep(0);
        x.back(0);
        x.undo();
    }

    /** Every row is made with the object: calls make nothing, however many there are. */
    private static void room() {
        com.sun.management.ThreadMXBean threads = (com.sun.management.ThreadMXBean) ManagementFactory.getThreadMXBean();
        long self = Thread.currentThread().getId();
        allCalls(new ChordSpreads(), 0);
        threads.getThreadAllocatedBytes(self);
        long before = threads.getThreadAllocatedBytes(self);
        ChordSpreads x = new ChordSpreads();
        long made = threads.getThreadAllocatedBytes(self);
        for (int i = 0; i < 20; i++) allCalls(x, i);
        long called = threads.getThreadAllocatedBytes(self);
        hold(made - before < 65_536, "an object takes less than 64 KiB, not " + (made - before));
        hold(called - made < 8_192, "calls make no objects, not " + (called - made) + " bytes");
    }

    public static void main(String[] args) throws IOException {
        face();
        Path file = Path.of("src/main/java/ChordSpreads.java");
        source(Files.readString(file));
        depth(file);
        room();
        System.out.println(wrong == 0 ? "all rules hold" : wrong + " rules do not hold");
        if (wrong != 0) System.exit(1);
    }
}
