import java.lang.annotation.ElementType;
import java.lang.annotation.Retention;
import java.lang.annotation.RetentionPolicy;
import java.lang.annotation.Target;
import java.lang.reflect.InvocationTargetException;
import java.lang.reflect.Method;
import java.util.ArrayList;
import java.util.Arrays;
import java.util.Comparator;
import java.util.HashMap;
import java.util.List;
import java.util.Map;
import java.util.Set;
import java.util.regex.Matcher;
import java.util.regex.Pattern;

/**
 * Tests by sentence. A test is a static method that bears the sentence it holds the class to, and is told by runs of
 * lines: "puts(0, 5, 6, -1) = 1", "tell 'n 1;' = 1" (types the text and calls band), "text 'n 1'" (types alone).
 * A number may be MIN or MAX; {1,2} and 0..4 stand for one call each, with one answer due for all or one for each.
 * Every call that is refused is left out by a twin as well, and the twins must be alike: a refusal changes nothing.
 */
final class Script {
    /** The words of ../shared/DOC.md that would be broken; SentencesTest sees to it that they stand there. */
    @Retention(RetentionPolicy.RUNTIME)
    @Target(ElementType.METHOD)
    @interface Says {
        String[] value();
    }

    record Call(String name, int[] numbers, Integer due) {
        @Override
        public String toString() {
            String all = Arrays.toString(numbers);
            return name + "(" + all.substring(1, all.length() - 1) + ")";
        }
    }

    /** A new object and how often it was called: nothing is promised behind the 512th call. */
    static final class Player {
        private final ChordSpreads real = new ChordSpreads();
        private int calls = 0;

        int play(Call call) {
            calls++;
            if (calls > 512) throw new IllegalStateException("a test calls an object more than 512 times");
            try {
                Object[] numbers = Arrays.stream(call.numbers).boxed().toArray();
                return (int) FACE.get(call.name).invoke(real, numbers);
            } catch (InvocationTargetException thrown) {
                throw new IllegalStateException(call + " threw " + thrown.getCause());
            } catch (IllegalAccessException notPublic) {
                throw new IllegalStateException(call + " is not public");
            }
        }

        int play(String name, int... numbers) {
            return play(new Call(name, numbers, null));
        }
    }

    /** Calls that answer something and change nothing. */
    private static final Set<String> ASKING = Set.of("player", "span", "chord", "could", "spreads", "score", "hand", "loud",
        "couldRest", "move", "reach", "fewest", "bear", "ill", "count");
    private static final Map<String, Integer> WORDS = Map.of("BAD", -1, "STATE", -2, "FULL", -3, "NONE", -9,
        "MIN", Integer.MIN_VALUE, "MAX", Integer.MAX_VALUE);
    private static final Pattern LINE = Pattern.compile("(\\w+)\\((.*)\\)(?: = ([^=]*))?");
    private static final Pattern TEXT = Pattern.compile("(tell|text) '(.*)'(?: = (-?\\d+))?", Pattern.DOTALL);
    private static final Map<String, Method> FACE = new HashMap<>();
    private static final List<String> WRONG = new ArrayList<>();
    private static String test = "";

    static {
        for (Method m : ChordSpreads.class.getDeclaredMethods()) FACE.put(m.getName(), m);
    }

    // ---- tests

    static void runAll(Class<?> tests) {
        Method[] methods = tests.getDeclaredMethods();
        Arrays.sort(methods, Comparator.comparing(Method::getName));
        int many = 0;
        for (Method m : methods) {
            if (m.isAnnotationPresent(Says.class)) {
                many++;
                runOne(m);
            }
        }
        System.out.println(many + " tests by sentence, " + WRONG.size() + " answers are not as due");
        if (many == 0 || !WRONG.isEmpty()) System.exit(1);
    }

    private static void runOne(Method m) {
        test = m.getName();
        int before = WRONG.size();
        try {
            m.invoke(null);
        } catch (InvocationTargetException thrown) {
            wrong(String.valueOf(thrown.getCause()));
        } catch (IllegalAccessException hidden) {
            wrong("it can't be called");
        }
        if (WRONG.size() > before) System.out.println("  broken: " + String.join(" .. ", m.getAnnotation(Says.class).value()));
    }

    static void wrong(String what) {
        WRONG.add(test);
        System.out.println(test + ": " + what);
    }

    static void due(String what, int got, int want) {
        if (got != want) wrong(what + " answered " + got + ", due is " + want);
    }

    /** A run on a new object. */
    static void run(String... lines) {
        List<Call> calls = new ArrayList<>();
        for (String line : lines) read(line, calls);
        Player player = new Player();
        List<Integer> answers = new ArrayList<>();
        for (Call call : calls) {
            int answer = player.play(call);
            answers.add(answer);
            if (call.due != null) due(call.toString(), answer, call.due);
        }
        refusedChangeNothing(calls, answers);
        askingChangesNothing(calls);
    }

    // ---- twins

    static boolean isRefused(int answer) {
        return answer <= -10 || answer >= -3 && answer <= -1;
    }

    static void refusedChangeNothing(List<Call> calls, List<Integer> answers) {
        for (int i = 0; i < calls.size(); i++) {
            if (!isRefused(answers.get(i))) continue;
            String with = probe(calls.subList(0, i + 1));
            String without = probe(calls.subList(0, i));
            if (!with.equals(without)) wrong(calls.get(i) + " is refused, but changes\n  " + without + " to\n  " + with);
        }
    }

    static void askingChangesNothing(List<Call> calls) {
        List<Call> others = new ArrayList<>(calls);
        others.removeIf(call -> ASKING.contains(call.name));
        if (!probe(calls).equals(probe(others))) wrong("calls that only ask have changed something");
    }

    /** All that can be seen of an object behind these calls, images, what can be undone and the text too. */
    static String probe(List<Call> calls) {
        Player x = new Player();
        for (Call call : calls) x.play(call);
        StringBuilder seen = new StringBuilder();
        look(x, seen);
        for (int p = 0; p < x.play("count", 0); p++) {
            for (int what = 0; what < 5; what++) seen.append(x.play("player", p, what)).append(' ');
            seen.append(x.play("span", p)).append(' ');
        }
        int[] asked = {x.play("ill"), x.play("score", 0), x.play("reach"), x.play("fewest"), x.play("bear")};
        seen.append(Arrays.toString(asked));
        while (x.play("count", 7) > 0) {
            seen.append(" undo ").append(x.play("undo")).append(": ");
            lookShortly(x, seen);
        }
        for (int image = 0; image < 2; image++) {
            seen.append(" back ").append(x.play("back", image)).append(": ");
            lookShortly(x, seen);
        }
        seen.append(" band ").append(x.play("band")).append(": ");
        lookShortly(x, seen);
        return seen.toString();
    }

    private static void look(Player x, StringBuilder seen) {
        for (int what = 0; what < 8; what++) seen.append(x.play("count", what)).append(' ');
        for (int c = 0; c < x.play("count", 2); c++) {
            for (int i = 0; i < 3; i++) seen.append(x.play("chord", c, i)).append(' ');
        }
    }

    private static void lookShortly(Player x, StringBuilder seen) {
        for (int what = 1; what < 6; what++) seen.append(x.play("count", what)).append(' ');
        int chords = x.play("count", 2);
        for (int c = 0; c < chords; c++) seen.append(x.play("chord", c, 0)).append(' ');
        if (chords > 0) seen.append(x.play("chord", chords - 1, -1)).append(' ').append(x.play("ill"));
    }

    // ---- lines

    private static void read(String line, List<Call> calls) {
        Matcher told = TEXT.matcher(line);
        if (told.matches()) {
            for (char letter : told.group(2).toCharArray()) calls.add(new Call("type", new int[] {letter}, null));
            if (told.group(1).equals("tell")) calls.add(new Call("band", new int[0], told.group(3) == null ? null : value(told.group(3))));
            return;
        }
        Matcher m = LINE.matcher(line);
        if (!m.matches() || !FACE.containsKey(m.group(1))) throw new IllegalArgumentException("no such line: " + line);
        List<int[]> all = new ArrayList<>();
        all.add(new int[0]);
        if (!m.group(2).isEmpty()) {
            for (String place : m.group(2).split(",(?![^{]*\\}) *")) all = each(all, values(place.trim()));
        }
        String[] dues = m.group(3) == null ? new String[0] : m.group(3).trim().split(" +");
        if (dues.length > 1 && dues.length != all.size()) throw new IllegalArgumentException("so many answers are not due: " + line);
        for (int i = 0; i < all.size(); i++) {
            Integer due = dues.length == 0 ? null : value(dues[dues.length == 1 ? 0 : i]);
            calls.add(new Call(m.group(1), all.get(i), due));
        }
    }

    private static List<int[]> each(List<int[]> heads, int[] values) {
        List<int[]> out = new ArrayList<>();
        for (int[] head : heads) {
            for (int value : values) {
                int[] longer = Arrays.copyOf(head, head.length + 1);
                longer[head.length] = value;
                out.add(longer);
            }
        }
        return out;
    }

    private static int[] values(String place) {
        if (place.startsWith("{")) {
            return Arrays.stream(place.substring(1, place.length() - 1).split(",")).mapToInt(v -> value(v.trim())).toArray();
        }
        int dots = place.indexOf("..");
        if (dots < 0) return new int[] {value(place)};
        int first = value(place.substring(0, dots));
        int[] out = new int[value(place.substring(dots + 2)) - first + 1];
        for (int i = 0; i < out.length; i++) out[i] = first + i;
        return out;
    }

    private static int value(String word) {
        return WORDS.containsKey(word) ? WORDS.get(word) : Integer.parseInt(word);
    }
}
