import java.util.Random;

/** No call ever throws, whatever its numbers and whatever went ahead; a refused call changes nothing. */
public final class AnyArgumentsTest {
    private static final int[] EDGES = {Integer.MIN_VALUE, Integer.MIN_VALUE + 1, -1000000, -10, -9, -3, -2, -1, 0, 1, 2, 3,
        4, 5, 6, 7, 8, 9, 10, 20, 21, 30, 31, 59, 60, 61, 255, 256, 1000000, Integer.MAX_VALUE - 1, Integer.MAX_VALUE};
    private static final String TEXT = "b 0 60 9 12;b 0 60 8 12;r 0 60 7;g 0 60 6;n 1 2 3;n 2 4 5;n 1 2 4;q 3 30;";

    private static int any(Random r) {
        return EDGES[r.nextInt(EDGES.length)];
    }

    private static int call(ChordSpreads x, Random r) {
        switch (r.nextInt(27)) {
            case 0: return x.type(any(r));
            case 1: return x.clear();
            case 2: return r.nextInt(20) == 0 ? x.band() : x.reach();
            case 3: return x.player(any(r), any(r));
            case 4: return x.span(any(r));
            case 5: return x.chord(any(r), any(r));
            case 6: return x.puts(any(r), any(r), any(r), any(r));
            case 7: return x.takes(any(r));
            case 8: return x.calls(any(r));
            case 9: return x.tells(any(r), any(r));
            case 10: return x.undo();
            case 11: return x.could(any(r), any(r), any(r));
            case 12: return x.spreads(any(r));
            case 13: return x.score(any(r));
            case 14: return x.hand(any(r), any(r));
            case 15: return x.loud(any(r), any(r));
            case 16: return x.couldRest(any(r));
            case 17: return x.move(any(r), any(r));
            case 18: return x.reach();
            case 19: return x.fewest();
            case 20: return x.bear();
            case 21: return x.hears(any(r), any(r));
            case 22: return x.forget();
            case 23: return x.ill();
            case 24: return x.keep(any(r));
            case 25: return x.back(any(r));
            default: return x.count(any(r));
        }
    }

    private static String state(ChordSpreads x) {
        StringBuilder all = new StringBuilder();
        for (int what = 0; what < 8; what++) all.append(x.count(what)).append(' ');
        for (int c = 0; c < 8; c++) {
            for (int i = -1; i < 3; i++) all.append(x.chord(c, i)).append(' ');
        }
        for (int p = 0; p < 4; p++) {
            for (int what = 0; what < 5; what++) all.append(x.player(p, what)).append(' ');
        }
        return all.append(x.ill()).append(' ').append(x.score(0)).toString();
    }

    public static void main(String[] args) {
        int wrong = 0;
        for (int seed = 0; seed < 200; seed++) {
            Random r = new Random(seed);
            ChordSpreads x = new ChordSpreads();
            for (int i = 0; i < TEXT.length() && seed % 4 != 0; i++) x.type(TEXT.charAt(i));
            x.band();
            for (int i = 0; i < 400; i++) {
                String before = state(x);
                int answer = call(x, r);
                if (answer < 0 && !before.equals(state(x))) {
                    wrong++;
                    System.out.println("seed " + seed + ", call " + i + ": refused with " + answer + ", but something changed");
                }
            }
        }
        System.out.println(wrong == 0 ? "all answers are as due" : wrong + " answers are not as due");
        if (wrong != 0) System.exit(1);
    }
}
