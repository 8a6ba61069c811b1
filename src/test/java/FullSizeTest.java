import java.util.ArrayList;
import java.util.Collections;
import java.util.List;
import java.util.Random;

/**
 * Bands as large as the document lets them be (four players, two of them bows, eight chords, mostly of three notes),
 * held against PlainModel: RandomTest's texts seldom come to that. Arguments: how many bands, the first seed.
 */
public final class FullSizeTest {
    private static final int SHOWN = 10, PLAYERS = 4, CHORDS = 8, NOTES = 3;
    private static int wrong = 0;
    private static int scores = 0;
    private static int most = 0;

    private static void due(String text, String call, int got, int want) {
        if (got == want) return;
        wrong++;
        if (wrong <= SHOWN) System.out.println("'" + text + "': " + call + " answered " + got + ", due is " + want);
    }

    private static String player(Random r, char kind) {
        boolean wide = r.nextInt(3) == 0;
        int low = wide ? 0 : r.nextInt(4);
        int high = wide ? 60 : low + 6 + r.nextInt(8);
        String item = "" + kind + low + " " + high + " " + (2 + r.nextInt(8));
        return kind == 'b' ? item + " " + (r.nextInt(3) == 0 ? 12 : r.nextInt(6)) + ";" : item + ";";
    }

    private static String chord(Random r) {
        int a = r.nextInt(4);
        int b = a + 1 + r.nextInt(4);
        int c = b + 1 + r.nextInt(4);
        return "n" + a + " " + b + (r.nextInt(4) == 0 ? ";" : " " + c + ";");
    }

    private static String text(Random r) {
        List<Character> kinds = new ArrayList<>(List.of('b', 'b', r.nextBoolean() ? 'g' : 'r', r.nextBoolean() ? 'g' : 'r'));
        Collections.shuffle(kinds, r);
        StringBuilder all = new StringBuilder();
        for (char kind : kinds) all.append(player(r, kind));
        for (int c = 0; c < CHORDS; c++) all.append(chord(r));
        return all.append('q').append(r.nextInt(21)).append(' ').append(r.nextBoolean() ? 30 : r.nextInt(10)).append(';').toString();
    }

    private static void compare(String text) {
        ChordSpreads real = new ChordSpreads();
        PlainModel plain = new PlainModel();
        for (char letter : text.toCharArray()) due(text, "type", real.type(letter), plain.type(letter));
        due(text, "band()", real.band(), PLAYERS + CHORDS + 1);
        plain.band();
        for (int what = 0; what < 3; what++) due(text, "score(" + what + ")", real.score(what), plain.score(what));
        for (int c = 0; c < CHORDS; c++) {
            due(text, "spreads(" + c + ")", real.spreads(c), plain.spreads(c));
            due(text, "couldRest(" + c + ")", real.couldRest(c), plain.couldRest(c));
            for (int p = 0; p < PLAYERS; p++) {
                due(text, "hand(" + c + ", " + p + ")", real.hand(c, p), plain.hand(c, p));
                due(text, "move(" + c + ", " + p + ")", real.move(c, p), plain.move(c, p));
            }
            for (int i = 0; i < NOTES; i++) due(text, "loud(" + c + ", " + i + ")", real.loud(c, i), plain.loud(c, i));
            most = Math.max(most, plain.spreads(c));
        }
        due(text, "reach()", real.reach(), plain.reach());
        due(text, "fewest()", real.fewest(), plain.fewest());
        due(text, "bear()", real.bear(), plain.bear());
        if (plain.score(0) >= 0) scores++;
    }

    public static void main(String[] args) {
        int bands = args.length > 0 ? Integer.parseInt(args[0]) : 60;
        long first = args.length > 1 ? Long.parseLong(args[1]) : 1;
        for (long seed = first; seed < first + bands; seed++) compare(text(new Random(seed)));
        // bands of which none can play, or all in one way alone, would test nothing
        if (scores < bands / 2 || most < 300) {
            wrong++;
            System.out.println("too few large bands: " + scores + " of " + bands + " have a score, " + most + " even spreads at most");
        }
        System.out.println(wrong == 0 ? "all answers are as due" : wrong + " answers are not as due");
        if (wrong != 0) System.exit(1);
    }
}
