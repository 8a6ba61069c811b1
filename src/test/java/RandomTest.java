import java.util.ArrayList;
import java.util.List;
import java.util.Random;

/** Random runs of calls, the same each time, held against PlainModel. Arguments: how many runs, the first seed. */
public final class RandomTest {
    private static final int SHOWN = 10;
    private static int wrong = 0;
    private static final List<String> run = new ArrayList<>();
    private static ChordSpreads real;
    private static PlainModel plain;

    private static void due(String call, int got, int want) {
        run.add(call + " = " + want);
        if (got != want) {
            wrong++;
            if (wrong <= SHOWN) System.out.println(run + "\n  answered " + got + ", due is " + want);
        }
    }

    private static int any(Random r, int low, int high) {
        return low + r.nextInt(high - low + 1);
    }

    /** Mostly as it should be; where wild, numbers may be beyond what they may be. */
    private static String text(Random r, boolean wild) {
        int players = wild ? any(r, 0, 5) : any(r, 1, 4);
        int chords = wild ? any(r, 0, 9) : any(r, 1, 8);
        int base = any(r, 0, 40);
        int room = any(r, 3, 20);
        List<String> items = new ArrayList<>();
        int bows = 0;
        for (int p = 0; p < players; p++) {
            int low = Math.max(0, base - any(r, -3, 6));
            int high = Math.min(60, low + any(r, wild ? -1 : 0, room + 4));
            char kind = "rbg".charAt(r.nextInt(3));
            if (!wild && kind == 'b' && ++bows > 2) kind = 'g';
            String item = kind + " " + low + " " + high + " " + any(r, wild && r.nextInt(9) == 0 ? 1 : 2, 9);
            items.add(kind == 'b' ? item + " " + any(r, 0, 12) : item);
        }
        for (int c = 0; c < chords; c++) {
            StringBuilder item = new StringBuilder("n");
            int note = base - 1;
            int many = wild && r.nextInt(9) == 0 ? any(r, 0, 4) : any(r, 1, 3);
            for (int i = 0; i < many; i++) {
                note += any(r, wild && r.nextInt(9) == 0 ? 0 : 1, 1 + room / 3);
                item.append(' ').append(wild ? note : Math.min(60, note));
            }
            items.add(item.toString());
        }
        if (r.nextInt(3) > 0) items.add(any(r, 0, items.size()), "q " + any(r, 0, wild ? 21 : 20) + " " + any(r, 0, wild ? 31 : 12));
        StringBuilder all = new StringBuilder();
        for (String item : items) all.append(r.nextBoolean() ? item.replaceFirst(" ", "") : item).append(r.nextInt(5) == 0 ? " ; " : ";");
        return all.length() > 150 ? all.substring(0, all.lastIndexOf(";", 149) + 1) : all.toString();
    }

    private static String spoilt(Random r, String text) {
        StringBuilder all = new StringBuilder(text);
        int changes = any(r, 1, 2);
        for (int i = 0; i < changes && all.length() > 0; i++) {
            char letter = r.nextInt(8) == 0 ? (char) r.nextInt(256) : "rbgnq; 0123456789;  ".charAt(r.nextInt(20));
            int at = r.nextInt(all.length());
            switch (r.nextInt(4)) {
                case 0 -> all.deleteCharAt(at);
                case 1 -> all.insert(at, letter);
                case 2 -> all.setCharAt(at, letter);
                default -> all.setLength(r.nextInt(4) == 0 ? at : all.length());
            }
        }
        return all.toString();
    }

    private static void tell(Random r, String text) {
        for (int i = 0; i < text.length(); i++) {
            int letter = text.charAt(i);
            due("type(" + letter + ")", real.type(letter), plain.type(letter));
        }
        due("band()", real.band(), plain.band());
        if (r.nextInt(10) > 0 || plain.count(6) > 100) due("clear()", real.clear(), plain.clear());
    }

    private static int chordNumber(Random r) {
        return any(r, r.nextInt(8) == 0 ? -1 : 0, plain.count(2));
    }

    private static int playerNumber(Random r) {
        return any(r, r.nextInt(8) == 0 ? -1 : 0, r.nextInt(8) == 0 ? 4 : 3);
    }

    private static void change(Random r) {
        int k = chordNumber(r);
        int p = playerNumber(r);
        int image = any(r, r.nextInt(8) == 0 ? -1 : 0, r.nextInt(8) == 0 ? 2 : 1);
        int a = any(r, r.nextInt(8) == 0 ? -2 : 0, r.nextInt(8) == 0 ? 61 : 45);
        int b = r.nextInt(3) == 0 ? -1 : a + any(r, r.nextInt(8) == 0 ? -1 : 1, 6);
        int c = r.nextInt(2) == 0 ? -1 : b + any(r, r.nextInt(8) == 0 ? -1 : 1, 6);
        int rest = any(r, r.nextInt(8) == 0 ? -1 : 0, r.nextInt(8) == 0 ? 21 : 9);
        int balance = any(r, r.nextInt(8) == 0 ? -1 : 0, r.nextInt(8) == 0 ? 31 : 12);
        switch (r.nextInt(12)) {
            case 0, 1 -> due("puts(" + k + ", " + a + ", " + b + ", " + c + ")", real.puts(k, a, b, c), plain.puts(k, a, b, c));
            case 2 -> near(r, k);
            case 3 -> due("takes(" + k + ")", real.takes(k), plain.takes(k));
            case 4 -> due("calls(" + p + ")", real.calls(p), plain.calls(p));
            case 5 -> due("tells(" + rest + ", " + balance + ")", real.tells(rest, balance), plain.tells(rest, balance));
            case 6, 7 -> due("undo()", real.undo(), plain.undo());
            case 8 -> due("keep(" + image + ")", real.keep(image), plain.keep(image));
            case 9 -> due("back(" + image + ")", real.back(image), plain.back(image));
            case 10 -> due("forget()", real.forget(), plain.forget());
            default -> {
                int is = any(r, r.nextInt(8) == 0 ? -1 : 0, r.nextInt(8) == 0 ? 2 : 1);
                due("hears(" + k + ", " + is + ")", real.hears(k, is), plain.hears(k, is));
            }
        }
    }

    /** A chord is put that is one there is already, or nearly so: scores with such chords go more often. */
    private static void near(Random r, int k) {
        int chords = plain.count(2);
        if (chords == 0) return;
        int like = r.nextInt(chords);
        int[] notes = {-1, -1, -1};
        for (int i = 0; i < plain.chord(like, -1); i++) notes[i] = plain.chord(like, i);
        if (r.nextBoolean()) notes[0] += any(r, -1, 1);
        due("puts(" + k + ", " + notes[0] + ", " + notes[1] + ", " + notes[2] + ")",
            real.puts(k, notes[0], notes[1], notes[2]), plain.puts(k, notes[0], notes[1], notes[2]));
    }

    private static void ask(Random r) {
        int c = chordNumber(r);
        int p = playerNumber(r);
        int i = any(r, -2, 4);
        int hand = any(r, r.nextInt(8) == 0 ? -1 : 0, r.nextInt(8) == 0 ? 8 : 7);
        int what = any(r, -1, 8);
        due("player(" + p + ", " + what + ")", real.player(p, what), plain.player(p, what));
        due("span(" + p + ")", real.span(p), plain.span(p));
        due("chord(" + c + ", " + i + ")", real.chord(c, i), plain.chord(c, i));
        due("could(" + p + ", " + c + ", " + hand + ")", real.could(p, c, hand), plain.could(p, c, hand));
        due("spreads(" + c + ")", real.spreads(c), plain.spreads(c));
        due("count(" + what + ")", real.count(what), plain.count(what));
        due("loud(" + c + ", " + i + ")", real.loud(c, i), plain.loud(c, i));
        due("couldRest(" + c + ")", real.couldRest(c), plain.couldRest(c));
        due("move(" + c + ", " + p + ")", real.move(c, p), plain.move(c, p));
        due("hand(" + c + ", " + p + ")", real.hand(c, p), plain.hand(c, p));
        due("score(" + what + ")", real.score(what), plain.score(what));
        due("ill()", real.ill(), plain.ill());
        if (r.nextInt(3) == 0) due("reach()", real.reach(), plain.reach());
        if (r.nextInt(6) == 0) due("fewest()", real.fewest(), plain.fewest());
        if (r.nextInt(8) == 0) due("bear()", real.bear(), plain.bear());
    }

    private static void wholeScore() {
        for (int what = 0; what < 3; what++) due("score(" + what + ")", real.score(what), plain.score(what));
        for (int c = 0; c < plain.count(2); c++) {
            due("couldRest(" + c + ")", real.couldRest(c), plain.couldRest(c));
            for (int p = 0; p < plain.count(0); p++) {
                due("hand(" + c + ", " + p + ")", real.hand(c, p), plain.hand(c, p));
                due("move(" + c + ", " + p + ")", real.move(c, p), plain.move(c, p));
            }
            for (int i = 0; i < 3; i++) due("loud(" + c + ", " + i + ")", real.loud(c, i), plain.loud(c, i));
        }
        due("reach()", real.reach(), plain.reach());
        due("fewest()", real.fewest(), plain.fewest());
        due("bear()", real.bear(), plain.bear());
        for (int what = 0; what < 8; what++) due("count(" + what + ")", real.count(what), plain.count(what));
    }

    private static void undoAll() {
        for (int i = 0; i < 11; i++) {
            due("undo()", real.undo(), plain.undo());
            for (int what = 1; what < 5; what++) due("count(" + what + ")", real.count(what), plain.count(what));
            due("chord(0, 0)", real.chord(0, 0), plain.chord(0, 0));
        }
    }

    private static void oneRun(long seed) {
        Random r = new Random(seed);
        real = new ChordSpreads();
        plain = new PlainModel();
        run.clear();
        run.add("seed " + seed);
        int wild = any(r, 0, 2);
        for (int i = 0; i < wild; i++) {
            String text = text(r, r.nextBoolean());
            tell(r, r.nextInt(3) == 0 ? text : spoilt(r, text));
        }
        tell(r, text(r, false));
        wholeScore();
        int steps = any(r, 1, 12);
        for (int i = 0; i < steps && run.size() < 480; i++) {
            int changes = any(r, 1, r.nextInt(6) == 0 ? 14 : 2);
            for (int j = 0; j < changes; j++) change(r);
            ask(r);
            if (r.nextInt(12) == 0 && run.size() < 250) tell(r, r.nextInt(4) == 0 ? spoilt(r, text(r, false)) : text(r, false));
            if (r.nextInt(12) == 0) undoAll();
        }
        wholeScore();
    }

    public static void main(String[] args) {
        int runs = args.length > 0 ? Integer.parseInt(args[0]) : 1500;
        long first = args.length > 1 ? Long.parseLong(args[1]) : 1;
        for (long seed = first; seed < first + runs && wrong < SHOWN; seed++) oneRun(seed);
        System.out.println(wrong == 0 ? "all answers are as due" : wrong + " answers are not as due");
        if (wrong != 0) System.exit(1);
    }
}
