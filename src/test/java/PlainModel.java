import java.util.ArrayList;
import java.util.Arrays;
import java.util.List;
import java.util.regex.Matcher;
import java.util.regex.Pattern;

/**
 * The document's words again, as plainly as can be and slowly: no tables, whole lists of spreads, every pair of
 * neighbours looked at. The random test holds the class against it.
 */
final class PlainModel {
    static final int BAD = -1, STATE = -2, FULL = -3, NONE = -9;

    record Member(char kind, int low, int high, int weight, int span) { }

    record State(List<List<Integer>> chords, int in, int rest, int balance) { }

    record Heard(int chord, int is) { }

    record Token(int place, String text) { }

    /** hands[c][p], or none. */
    record Score(int cost, int[][] hands) { }

    static final class Fault extends RuntimeException {
        final int place;

        Fault(int place) {
            super(null, null, false, false);
            this.place = place;
        }
    }

    StringBuilder text = new StringBuilder();
    List<Member> members = new ArrayList<>();
    State now = new State(List.of(), 0, 5, 9);
    List<State> past = new ArrayList<>();
    State[] images = new State[2];
    List<Heard> heard = new ArrayList<>();

    // ---- told

    int type(int letter) {
        if (letter < 0 || letter > 255) return BAD;
        if (text.length() == 150) return FULL;
        text.append((char) letter);
        return text.length();
    }

    int clear() {
        int had = text.length();
        text.setLength(0);
        return had;
    }

    int band() {
        List<Token> tokens = new ArrayList<>();
        Matcher m = Pattern.compile("[0-9]+|[^ 0-9]", Pattern.DOTALL).matcher(text);
        while (m.find()) tokens.add(new Token(m.start(), m.group()));
        List<Member> newMembers = new ArrayList<>();
        List<List<Integer>> newChords = new ArrayList<>();
        List<int[]> rules = new ArrayList<>();
        int items = 0;
        try {
            int at = 0;
            while (at < tokens.size()) {
                at = item(tokens, at, newMembers, newChords, rules);
                items++;
            }
        } catch (Fault f) {
            return -10 - f.place;
        }
        members = newMembers;
        int rest = rules.isEmpty() ? 5 : rules.get(0)[0];
        int balance = rules.isEmpty() ? 9 : rules.get(0)[1];
        now = new State(newChords, (1 << members.size()) - 1, rest, balance);
        past.clear();
        heard.clear();
        images = new State[2];
        text.setLength(0);
        return items;
    }

    private int item(List<Token> tokens, int at, List<Member> ms, List<List<Integer>> cs, List<int[]> rules) {
        Token head = tokens.get(at);
        List<Integer> numbers = new ArrayList<>();
        int end = at + 1;
        switch (head.text) {
            case "r", "b", "g" -> {
                long bows = ms.stream().filter(x -> x.kind == 'b').count();
                if (ms.size() == 4 || head.text.equals("b") && bows == 2) throw new Fault(head.place);
                numbers.add(number(tokens, end++, 0, 60));
                numbers.add(number(tokens, end++, numbers.get(0), 60));
                numbers.add(number(tokens, end++, 2, 9));
                numbers.add(head.text.equals("b") ? number(tokens, end++, 0, 12) : 0);
                ms.add(new Member(head.text.charAt(0), numbers.get(0), numbers.get(1), numbers.get(2), numbers.get(3)));
            }
            case "n" -> {
                if (cs.size() == 8) throw new Fault(head.place);
                numbers.add(number(tokens, end++, 0, 60));
                while (numbers.size() < 3 && end < tokens.size() && !tokens.get(end).text.equals(";")) {
                    numbers.add(number(tokens, end++, numbers.get(numbers.size() - 1) + 1, 60));
                }
                cs.add(numbers);
            }
            case "q" -> {
                if (!rules.isEmpty()) throw new Fault(head.place);
                rules.add(new int[] {number(tokens, end++, 0, 20), number(tokens, end++, 0, 30)});
            }
            default -> throw new Fault(head.place);
        }
        if (end >= tokens.size()) throw new Fault(text.length());
        if (!tokens.get(end).text.equals(";")) throw new Fault(tokens.get(end).place);
        return end + 1;
    }

    private int number(List<Token> tokens, int at, int low, int high) {
        if (at >= tokens.size()) throw new Fault(text.length());
        Token t = tokens.get(at);
        if (!t.text.matches("0|[1-9][0-9]?")) throw new Fault(t.place);
        int value = Integer.parseInt(t.text);
        if (value < low || value > high) throw new Fault(t.place);
        return value;
    }

    int player(int p, int what) {
        if (noPlayer(p) || what < 0 || what > 4) return BAD;
        Member m = members.get(p);
        return new int[] {"rbg".indexOf(m.kind), m.low, m.high, m.weight, now.in >> p & 1}[what];
    }

    int span(int p) {
        return noPlayer(p) || members.get(p).kind != 'b' ? BAD : members.get(p).span;
    }

    int chord(int c, int i) {
        if (noChord(c) || i < -1) return BAD;
        List<Integer> notes = now.chords.get(c);
        return i == -1 ? notes.size() : i < notes.size() ? notes.get(i) : NONE;
    }

    // ---- done

    private void become(State next) {
        past.add(now);
        if (past.size() > 10) past.remove(0);
        now = next;
    }

    int puts(int k, int a, int b, int c) {
        List<Integer> notes = new ArrayList<>();
        for (int note : new int[] {a, b, c}) if (note != -1) notes.add(note);
        boolean hole = b == -1 && c != -1 || a == -1;
        if (k < 0 || k > now.chords.size() || hole) return BAD;
        for (int i = 0; i < notes.size(); i++) {
            int note = notes.get(i);
            if (note < 0 || note > 60 || i > 0 && note <= notes.get(i - 1)) return BAD;
        }
        List<List<Integer>> chords = new ArrayList<>(now.chords);
        if (k < chords.size()) {
            if (chords.get(k).equals(notes)) return STATE;
            chords.set(k, notes);
        } else {
            if (chords.size() == 8) return FULL;
            chords.add(notes);
        }
        become(new State(chords, now.in, now.rest, now.balance));
        return chords.size();
    }

    int takes(int k) {
        if (noChord(k)) return BAD;
        List<List<Integer>> chords = new ArrayList<>(now.chords);
        chords.remove(k);
        become(new State(chords, now.in, now.rest, now.balance));
        return chords.size();
    }

    int calls(int p) {
        if (noPlayer(p)) return BAD;
        become(new State(now.chords, now.in ^ 1 << p, now.rest, now.balance));
        return now.in >> p & 1;
    }

    int tells(int rest, int balance) {
        if (rest < 0 || rest > 20 || balance < 0 || balance > 30) return BAD;
        if (rest == now.rest && balance == now.balance) return STATE;
        become(new State(now.chords, now.in, rest, balance));
        return 1;
    }

    int undo() {
        if (past.isEmpty()) return STATE;
        now = past.remove(past.size() - 1);
        return past.size();
    }

    // ---- hands and spreads

    private boolean noPlayer(int p) {
        return p < 0 || p >= members.size();
    }

    private boolean noChord(int c) {
        return c < 0 || c >= now.chords.size();
    }

    private static List<Integer> played(List<Integer> notes, int hand) {
        List<Integer> out = new ArrayList<>();
        for (int i = 0; i < notes.size(); i++) if ((hand & 1 << i) != 0) out.add(notes.get(i));
        return out;
    }

    private static boolean can(Member m, List<Integer> notes, int hand) {
        List<Integer> own = played(notes, hand);
        for (int note : own) if (note < m.low || note > m.high) return false;
        if (own.size() <= 1) return true;
        return m.kind == 'b' && own.size() == 2 && own.get(1) - own.get(0) <= m.span;
    }

    int could(int p, int c, int hand) {
        if (noPlayer(p) || noChord(c) || hand < 0 || hand > 7 || hand >> now.chords.get(c).size() != 0) return BAD;
        return can(members.get(p), now.chords.get(c), hand) ? 1 : 0;
    }

    private int loudOf(int[] hands, int i) {
        int sum = 0;
        for (int p = 0; p < members.size(); p++) {
            if ((hands[p] & 1 << i) != 0) {
                int weight = members.get(p).weight;
                sum += Integer.bitCount(hands[p]) == 2 ? weight / 2 : weight;
            }
        }
        return sum;
    }

    private boolean isEvenSpread(int[] hands, int notes, int balance) {
        int together = 0;
        for (int hand : hands) together |= hand;
        if (together != (1 << notes) - 1) return false;
        for (int i = 0; i < notes; i++) {
            for (int j = 0; j < notes; j++) {
                if (loudOf(hands, i) - loudOf(hands, j) > balance) return false;
            }
        }
        return true;
    }

    /** In the document's order: player 0's hand first, as a number. */
    private List<int[]> evenSpreads(List<Integer> notes, int in, int balance) {
        List<int[]> out = new ArrayList<>();
        gather(notes, in, balance, new int[members.size()], 0, out);
        return out;
    }

    private void gather(List<Integer> notes, int in, int balance, int[] hands, int p, List<int[]> out) {
        if (p == members.size()) {
            if (isEvenSpread(hands, notes.size(), balance)) out.add(hands.clone());
            return;
        }
        for (int hand = 0; hand < 1 << notes.size(); hand++) {
            if (hand != 0 && ((in >> p & 1) == 0 || !can(members.get(p), notes, hand))) continue;
            hands[p] = hand;
            gather(notes, in, balance, hands, p + 1, out);
        }
        hands[p] = 0;
    }

    int spreads(int c) {
        return noChord(c) ? BAD : evenSpreads(now.chords.get(c), now.in, now.balance).size();
    }

    // ---- the score

    private int moveOf(List<Integer> notes, int hand, List<Integer> notesThen, int handThen) {
        if (hand == 0 && handThen == 0) return 0;
        if (hand == 0 || handThen == 0) return now.rest;
        List<Integer> one = played(notes, hand);
        List<Integer> other = played(notesThen, handThen);
        return Math.abs(one.get(0) - other.get(0)) + (one.size() != other.size() ? 2 : 0);
    }

    /** -1: bells can't. */
    private int movesOf(List<Integer> notes, int[] hands, List<Integer> notesThen, int[] handsThen) {
        int sum = 0;
        for (int p = 0; p < members.size(); p++) {
            boolean same = hands[p] != 0 && played(notes, hands[p]).equals(played(notesThen, handsThen[p]));
            if (members.get(p).kind == 'g' && same) return -1;
            sum += moveOf(notes, hands[p], notesThen, handsThen[p]);
        }
        return sum;
    }

    private Score theScore(int chords, int in, int balance) {
        if (chords == 0) return new Score(0, new int[0][]);
        List<List<int[]>> all = new ArrayList<>();
        long combinations = 1;
        for (int c = 0; c < chords; c++) {
            all.add(evenSpreads(now.chords.get(c), in, balance));
            combinations = Math.min(1L << 40, combinations * all.get(c).size());
        }
        if (combinations <= 3000) return byTryingAll(all);
        return byNeighbours(all);
    }

    /** Every score there is, in order; the first of the least cost stays. */
    private Score byTryingAll(List<List<int[]>> all) {
        Score best = null;
        int n = all.size();
        int[] at = new int[n];
        for (List<int[]> list : all) if (list.isEmpty()) return null;
        while (true) {
            int cost = 0;
            for (int c = 0; c + 1 < n && cost >= 0; c++) {
                int moves = movesOf(now.chords.get(c), all.get(c).get(at[c]), now.chords.get(c + 1), all.get(c + 1).get(at[c + 1]));
                cost = moves < 0 ? -1 : cost + moves;
            }
            if (cost >= 0 && (best == null || cost < best.cost)) {
                int[][] hands = new int[n][];
                for (int c = 0; c < n; c++) hands[c] = all.get(c).get(at[c]);
                best = new Score(cost, hands);
            }
            int c = n - 1;
            while (c >= 0 && ++at[c] == all.get(c).size()) at[c--] = 0;
            if (c < 0) return best;
        }
    }

    private Score byNeighbours(List<List<int[]>> all) {
        int n = all.size();
        int far = 1_000_000;
        int[][] cost = new int[n][];
        int[][] next = new int[n][];
        for (int c = n - 1; c >= 0; c--) {
            cost[c] = new int[all.get(c).size()];
            next[c] = new int[all.get(c).size()];
            for (int s = 0; s < cost[c].length; s++) {
                if (c == n - 1) continue;
                cost[c][s] = far;
                for (int t = 0; t < cost[c + 1].length; t++) {
                    if (cost[c + 1][t] >= far) continue;
                    int moves = movesOf(now.chords.get(c), all.get(c).get(s), now.chords.get(c + 1), all.get(c + 1).get(t));
                    if (moves >= 0 && moves + cost[c + 1][t] < cost[c][s]) {
                        cost[c][s] = moves + cost[c + 1][t];
                        next[c][s] = t;
                    }
                }
            }
        }
        int first = -1;
        for (int s = 0; s < cost[0].length; s++) {
            if (cost[0][s] < far && (first < 0 || cost[0][s] < cost[0][first])) first = s;
        }
        if (first < 0) return null;
        int[][] hands = new int[n][];
        int s = first;
        for (int c = 0; c < n; c++) {
            hands[c] = all.get(c).get(s);
            s = next[c][s];
        }
        return new Score(cost[0][first], hands);
    }

    private State cachedFor;
    private Score cached;

    private Score theScore() {
        if (cachedFor != now) {
            cached = theScore(now.chords.size(), now.in, now.balance);
            cachedFor = now;
        }
        return cached;
    }

    /** Sets of spreads that can be come to, chord by chord: costs are not asked. */
    private boolean isThereAScore(int chords, int in, int balance) {
        List<int[]> come = null;
        for (int c = 0; c < chords; c++) {
            List<int[]> here = evenSpreads(now.chords.get(c), in, balance);
            if (c > 0) {
                List<int[]> kept = new ArrayList<>();
                for (int[] hands : here) {
                    for (int[] ahead : come) {
                        if (movesOf(now.chords.get(c - 1), ahead, now.chords.get(c), hands) >= 0) {
                            kept.add(hands);
                            break;
                        }
                    }
                }
                here = kept;
            }
            if (here.isEmpty()) return false;
            come = here;
        }
        return true;
    }

    int score(int what) {
        if (what < 0 || what > 2) return BAD;
        Score s = theScore();
        if (s == null) return NONE;
        int playing = 0;
        int doubled = 0;
        for (int c = 0; c < s.hands.length; c++) {
            for (int hand : s.hands[c]) if (hand != 0) playing++;
            for (int i = 0; i < now.chords.get(c).size(); i++) {
                int at = i;
                if (Arrays.stream(s.hands[c]).filter(h -> (h & 1 << at) != 0).count() >= 2) doubled++;
            }
        }
        return new int[] {s.cost, playing, doubled}[what];
    }

    int hand(int c, int p) {
        if (noChord(c) || noPlayer(p)) return BAD;
        return theScore() == null ? NONE : theScore().hands[c][p];
    }

    int loud(int c, int i) {
        if (noChord(c) || i < 0 || i >= now.chords.get(c).size()) return BAD;
        return theScore() == null ? NONE : loudOf(theScore().hands[c], i);
    }

    int couldRest(int c) {
        if (noChord(c)) return BAD;
        if (theScore() == null) return NONE;
        int bits = 0;
        for (int p = 0; p < members.size(); p++) {
            int[] hands = theScore().hands[c].clone();
            if (hands[p] == 0) continue;
            hands[p] = 0;
            if (isEvenSpread(hands, now.chords.get(c).size(), now.balance)) bits |= 1 << p;
        }
        return bits;
    }

    int move(int c, int p) {
        if (noChord(c) || c == now.chords.size() - 1 || noPlayer(p)) return BAD;
        if (theScore() == null) return NONE;
        return moveOf(now.chords.get(c), theScore().hands[c][p], now.chords.get(c + 1), theScore().hands[c + 1][p]);
    }

    int reach() {
        for (int chords = now.chords.size(); chords > 0; chords--) {
            if (isThereAScore(chords, now.in, now.balance)) return chords;
        }
        return 0;
    }

    int fewest() {
        int best = NONE;
        for (int set = 0; set < 1 << members.size(); set++) {
            if (best != NONE && Integer.bitCount(set) >= Integer.bitCount(best)) continue;
            if (isThereAScore(now.chords.size(), set, now.balance)) best = set;
        }
        return best;
    }

    int bear() {
        for (int balance = 0; balance <= 30; balance++) {
            if (isThereAScore(now.chords.size(), now.in, balance)) return balance;
        }
        return NONE;
    }

    // ---- ill, images

    int hears(int c, int is) {
        if (noChord(c) || is < 0 || is > 1) return BAD;
        if (heard.size() == 6) return FULL;
        heard.add(new Heard(c, is));
        return heard.size();
    }

    int forget() {
        int had = heard.size();
        heard.clear();
        return had;
    }

    int ill() {
        int bits = 0;
        for (int p = 0; p < members.size(); p++) {
            if ((now.in >> p & 1) == 0) continue;
            boolean all = true;
            for (Heard h : heard) {
                if (h.chord >= now.chords.size()) continue;
                boolean goes = !evenSpreads(now.chords.get(h.chord), now.in - (1 << p), now.balance).isEmpty();
                all &= goes == (h.is == 1);
            }
            if (all) bits |= 1 << p;
        }
        return bits;
    }

    int keep(int image) {
        if (image < 0 || image > 1) return BAD;
        images[image] = now;
        return now.chords.size();
    }

    int back(int image) {
        if (image < 0 || image > 1) return BAD;
        if (images[image] == null) return STATE;
        now = images[image];
        past.clear();
        return now.chords.size();
    }

    int count(int what) {
        if (what < 0 || what > 7) return BAD;
        return new int[] {members.size(), now.in, now.chords.size(), now.rest, now.balance,
            heard.size(), text.length(), past.size()}[what];
    }
}
