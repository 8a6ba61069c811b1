import java.util.ArrayList;
import java.util.List;
import java.util.Random;

/** No call ever throws, whatever its numbers and whatever went ahead; a refused call changes nothing. */
public final class AnyArgumentsTest {
    private static final int[] EDGES = {Integer.MIN_VALUE, Integer.MIN_VALUE + 1, -1000000, -10, -9, -3, -2, -1, 0, 1, 2, 3,
        4, 5, 6, 7, 8, 9, 10, 20, 21, 30, 31, 59, 60, 61, 255, 256, 1000000, Integer.MAX_VALUE - 1, Integer.MAX_VALUE};
    private static final String[] CALLS = {"type 1", "clear 0", "band 0", "player 2", "span 1", "chord 2", "puts 4", "takes 1", "calls 1",
        "tells 2", "undo 0", "could 3", "spreads 1", "score 1", "hand 2", "loud 2", "couldRest 1", "move 2", "reach 0", "fewest 0",
        "bear 0", "hears 2", "forget 0", "ill 0", "keep 1", "back 1", "count 1"};
    private static final String TEXT = "b 0 60 9 12;b 0 60 8 12;r 0 60 7;g 0 60 6;n 1 2 3;n 2 4 5;n 1 2 4;q 3 30;";
    private static final int SEEDS = 400, RANDOM_CALLS = 110;

    private static int any(Random r, int from, int to) {
        return EDGES[from + r.nextInt(to - from)];
    }

    /** Half of the numbers are small, so that calls are not all refused. */
    private static Script.Call call(Random r) {
        String[] call = CALLS[r.nextInt(CALLS.length)].split(" ");
        // read anew an object is empty, and the rest of a run would be poor
        if (call[0].equals("band") && r.nextInt(8) > 0) call = new String[] {"puts", "4"};
        int[] numbers = new int[Integer.parseInt(call[1])];
        boolean small = r.nextBoolean();
        for (int i = 0; i < numbers.length; i++) numbers[i] = small ? any(r, 7, 16) : any(r, 0, EDGES.length);
        return new Script.Call(call[0], numbers, null);
    }

    @Script.Says("Refused, and nothing changes")
    static void anyNumbersInAnyState() {
        for (int seed = 0; seed < SEEDS; seed++) {
            Random r = new Random(seed);
            List<Script.Call> calls = new ArrayList<>();
            for (char letter : TEXT.toCharArray()) {
                if (seed % 4 != 0) calls.add(new Script.Call("type", new int[] {letter}, null));
            }
            calls.add(new Script.Call("band", new int[0], null));
            for (int i = 0; i < RANDOM_CALLS; i++) calls.add(call(r));
            withoutTheRefused(seed, calls);
        }
    }

    /** A twin that is not asked what the other refuses answers all else alike, and is alike in the end. */
    private static void withoutTheRefused(int seed, List<Script.Call> calls) {
        Script.Player one = new Script.Player();
        Script.Player twin = new Script.Player();
        List<Script.Call> taken = new ArrayList<>();
        for (Script.Call call : calls) {
            int answer = one.play(call);
            if (Script.isRefused(answer)) continue;
            taken.add(call);
            Script.due("seed " + seed + ": " + call + " of the twin", twin.play(call), answer);
        }
        if (!Script.probe(calls).equals(Script.probe(taken))) Script.wrong("seed " + seed + ": a refused call has changed something");
    }

    public static void main(String[] args) {
        Script.runAll(AnyArgumentsTest.class);
    }
}
