/** Chords spread over players: see ../shared/DOC.md for what every call promises. */
public final class ChordSpreads {
    public static final int BAD = -1, STATE = -2, FULL = -3, NONE = -9;

    private static final int PLAYERS = 4, BOWS = 2, CHORDS = 8, NOTES = 3, TOP = 60;
    private static final int REED = 0, BOW = 1, BELL = 2;
    private static final int WEIGHT_LOW = 2, WEIGHT_HIGH = 9, SPAN_HIGH = 12;
    private static final int REST_HIGH = 20, REST_FIRST = 5, BALANCE_HIGH = 30, BALANCE_FIRST = 9;
    private static final int LETTERS = 150, LETTER_HIGH = 255, FAULT = -10;
    private static final int KNOWN = 10, IMAGES = 2, HEARD = 6;
    private static final int NO_NOTE = -1;

    /** A cost or a difference that can't be had; far above any real one, and five of it still fit an int. */
    private static final int NEVER = 1 << 26;

    private final Reader reader = new Reader();
    private final Search search = new Search();
    private final Band players = search.players;
    private final Piece now = search.piece;
    private final Piece[] past = new Piece[KNOWN];
    private int known = 0;
    private final Piece[] images = new Piece[IMAGES];
    private final boolean[] kept = new boolean[IMAGES];
    private final int[] heardChord = new int[HEARD];
    private final int[] heardIs = new int[HEARD];
    private int heard = 0;
    private boolean solved = false;

    public ChordSpreads() {
        for (int i = 0; i < KNOWN; i++) {
            past[i] = new Piece();
        }
        for (int i = 0; i < IMAGES; i++) {
            images[i] = new Piece();
        }
    }

    // ---- what is told

    public int type(int letter) {
        if (letter < 0 || letter > LETTER_HIGH) {
            return BAD;
        }
        if (reader.length >= LETTERS) {
            return FULL;
        }
        reader.add(letter);
        return reader.length;
    }

    public int clear() {
        int had = reader.length;
        reader.length = 0;
        return had;
    }

    public int band() {
        int items = reader.read();
        if (items < 0) {
            return items;
        }
        players.become(reader.players);
        now.become(reader.piece);
        reader.length = 0;
        known = 0;
        heard = 0;
        for (int i = 0; i < IMAGES; i++) {
            kept[i] = false;
        }
        solved = false;
        return items;
    }

    public int player(int p, int what) {
        if (!isPlayer(p)) {
            return BAD;
        }
        switch (what) {
            case 0: return players.kind[p];
            case 1: return players.low[p];
            case 2: return players.high[p];
            case 3: return players.weight[p];
            case 4: return now.in >> p & 1;
            default: return BAD;
        }
    }

    public int span(int p) {
        if (!isPlayer(p) || players.kind[p] != BOW) {
            return BAD;
        }
        return players.width[p];
    }

    public int chord(int c, int i) {
        if (!isChord(c) || i < -1) {
            return BAD;
        }
        int many = now.notesOf(c);
        if (i == -1) {
            return many;
        }
        return i < many ? now.noteAt(c, i) : NONE;
    }

    // ---- what is done

    public int puts(int k, int a, int b, int c) {
        if (k < 0 || k > now.size || !areNotes(a, b, c)) {
            return BAD;
        }
        if (k < now.size && now.isThat(k, a, b, c)) {
            return STATE;
        }
        if (k >= CHORDS) {
            return FULL;
        }
        remember();
        now.put(k, a, b, c);
        return now.size;
    }

    public int takes(int k) {
        if (!isChord(k)) {
            return BAD;
        }
        remember();
        now.take(k);
        return now.size;
    }

    public int calls(int p) {
        if (!isPlayer(p)) {
            return BAD;
        }
        remember();
        now.in ^= 1 << p;
        return now.in >> p & 1;
    }

    public int tells(int rest, int balance) {
        if (!isWithin(rest, 0, REST_HIGH) || !isWithin(balance, 0, BALANCE_HIGH)) {
            return BAD;
        }
        if (rest == now.rest && balance == now.balance) {
            return STATE;
        }
        remember();
        now.rest = rest;
        now.balance = balance;
        return 1;
    }

    public int undo() {
        if (known <= 0) {
            return STATE;
        }
        known--;
        now.become(past[known]);
        solved = false;
        return known;
    }

    // ---- hands and spreads

    public int could(int p, int c, int hand) {
        if (!isPlayer(p) || !isChord(c) || hand < 0 || hand >= 1 << now.notesOf(c)) {
            return BAD;
        }
        return players.manages(p, now, c, hand) ? 1 : 0;
    }

    public int spreads(int c) {
        return isChord(c) ? search.evenSpreads(c, now.in) : BAD;
    }

    // ---- the score

    public int score(int what) {
        if (!isWithin(what, 0, 2)) {
            return BAD;
        }
        if (!isThereAScore()) {
            return NONE;
        }
        switch (what) {
            case 0: return search.least;
            case 1: return search.handsThatPlay();
            default: return search.doubledNotes();
        }
    }

    public int hand(int c, int p) {
        if (!isChord(c) || !isPlayer(p)) {
            return BAD;
        }
        return isThereAScore() ? search.handIn(c, p) : NONE;
    }

    public int loud(int c, int i) {
        if (!isChord(c) || i < 0 || i >= now.notesOf(c)) {
            return BAD;
        }
        return isThereAScore() ? search.loudWithout(c, i, PLAYERS) : NONE;
    }

    public int couldRest(int c) {
        if (!isChord(c)) {
            return BAD;
        }
        if (!isThereAScore()) {
            return NONE;
        }
        int resting = 0;
        for (int p = 0; p < players.size; p++) {
            if (search.handIn(c, p) != 0 && search.isEvenWithout(c, p)) {
                resting |= 1 << p;
            }
        }
        return resting;
    }

    public int move(int c, int p) {
        if (!isChord(c) || c == now.size - 1 || !isPlayer(p)) {
            return BAD;
        }
        if (!isThereAScore()) {
            return NONE;
        }
        return search.way(p, c, search.handIn(c, p), c + 1, search.handIn(c + 1, p));
    }

    public int reach() {
        search.measure(now.in);
        int chords = 0;
        while (chords < now.size && search.needed(chords + 1) <= now.balance) {
            chords++;
        }
        return chords;
    }

    public int fewest() {
        for (int many = 0; many <= players.size; many++) {
            for (int set = 0; set < 1 << players.size; set++) {
                if (Integer.bitCount(set) == many && canPlayAll(set)) {
                    return set;
                }
            }
        }
        return NONE;
    }

    public int bear() {
        search.measure(now.in);
        int least = search.needed(now.size);
        return least <= BALANCE_HIGH ? least : NONE;
    }

    // ---- who is ill

    public int hears(int c, int is) {
        if (!isChord(c) || !isWithin(is, 0, 1)) {
            return BAD;
        }
        if (heard >= HEARD) {
            return FULL;
        }
        heardChord[heard] = c;
        heardIs[heard] = is;
        heard++;
        return heard;
    }

    public int forget() {
        int had = heard;
        heard = 0;
        return had;
    }

    public int ill() {
        int suspects = 0;
        for (int p = 0; p < players.size; p++) {
            if ((now.in >> p & 1) == 1 && fitsAllHeard(now.in & ~(1 << p))) {
                suspects |= 1 << p;
            }
        }
        return suspects;
    }

    // ---- images

    public int keep(int image) {
        if (!isWithin(image, 0, IMAGES - 1)) {
            return BAD;
        }
        images[image].become(now);
        kept[image] = true;
        return now.size;
    }

    public int back(int image) {
        if (!isWithin(image, 0, IMAGES - 1)) {
            return BAD;
        }
        if (!kept[image]) {
            return STATE;
        }
        now.become(images[image]);
        known = 0;
        solved = false;
        return now.size;
    }

    public int count(int what) {
        switch (what) {
            case 0: return players.size;
            case 1: return now.in;
            case 2: return now.size;
            case 3: return now.rest;
            case 4: return now.balance;
            case 5: return heard;
            case 6: return reader.length;
            case 7: return known;
            default: return BAD;
        }
    }

    // ---- helpers of the calls

    private static boolean isWithin(int number, int low, int high) {
        return number >= low && number <= high;
    }

    private boolean isPlayer(int p) {
        return p >= 0 && p < players.size;
    }

    private boolean isChord(int c) {
        return c >= 0 && c < now.size;
    }

    private static boolean areNotes(int a, int b, int c) {
        if (!isWithin(a, 0, TOP)) {
            return false;
        }
        if (b == NO_NOTE) {
            return c == NO_NOTE;
        }
        return isWithin(b, a + 1, TOP) && (c == NO_NOTE || isWithin(c, b + 1, TOP));
    }

    /** Whole pieces are kept, as they are small and one way to undo then serves all that can be done. */
    private void remember() {
        if (known >= KNOWN) {
            forgetOldest();
        }
        past[known].become(now);
        known++;
        solved = false;
    }

    private void forgetOldest() {
        Piece oldest = past[0];
        for (int i = 1; i < KNOWN; i++) {
            past[i - 1] = past[i];
        }
        past[KNOWN - 1] = oldest;
        known = KNOWN - 1;
    }

    private boolean isThereAScore() {
        if (!solved) {
            search.findCosts();
            search.chooseFirst();
            solved = true;
        }
        return search.least < NEVER;
    }

    private boolean canPlayAll(int set) {
        search.measure(set);
        return search.needed(now.size) <= now.balance;
    }

    private boolean fitsAllHeard(int set) {
        for (int h = 0; h < heard; h++) {
            int c = heardChord[h];
            if (isChord(c) && (search.evenSpreads(c, set) > 0) != (heardIs[h] == 1)) {
                return false;
            }
        }
        return true;
    }

    /** The players as they were told. */
    private static final class Band {
        int size = 0;
        int bows = 0;
        final int[] kind = new int[PLAYERS];
        final int[] low = new int[PLAYERS];
        final int[] high = new int[PLAYERS];
        final int[] weight = new int[PLAYERS];
        final int[] width = new int[PLAYERS];

        void empty() {
            size = 0;
            bows = 0;
        }

        boolean hasRoomFor(int ofKind) {
            return size < PLAYERS && (ofKind != BOW || bows < BOWS);
        }

        /** Only where there is room. */
        void add(int ofKind, int lowest, int highest, int heavy, int wide) {
            if (!hasRoomFor(ofKind)) {
                return;
            }
            kind[size] = ofKind;
            low[size] = lowest;
            high[size] = highest;
            weight[size] = heavy;
            width[size] = wide;
            size++;
            if (ofKind == BOW) {
                bows++;
            }
        }

        void become(Band other) {
            empty();
            for (int p = 0; p < other.size; p++) {
                add(other.kind[p], other.low[p], other.high[p], other.weight[p], other.width[p]);
            }
        }

        boolean manages(int p, Piece piece, int c, int hand) {
            int many = Integer.bitCount(hand);
            if (many == 0) {
                return true;
            }
            if (many > (kind[p] == BOW ? 2 : 1)) {
                return false;
            }
            int lowest = piece.lowestOf(c, hand);
            int highest = piece.highestOf(c, hand);
            return lowest >= low[p] && highest <= high[p] && (many == 1 || highest - lowest <= width[p]);
        }

        /** How loud each note is that the hand plays. */
        int strength(int p, int hand) {
            return Integer.bitCount(hand) == 2 ? weight[p] >> 1 : weight[p];
        }
    }

    /** All that can be done, undone and kept in an image: chords, who is in, rest and balance. */
    private static final class Piece {
        int size = 0;
        int in = 0;
        int rest = REST_FIRST;
        int balance = BALANCE_FIRST;
        final int[] notes = new int[CHORDS * NOTES];

        void empty() {
            size = 0;
            in = 0;
            rest = REST_FIRST;
            balance = BALANCE_FIRST;
        }

        int noteAt(int c, int i) {
            return notes[c * NOTES + i];
        }

        int notesOf(int c) {
            int many = 0;
            while (many < NOTES && noteAt(c, many) != NO_NOTE) {
                many++;
            }
            return many;
        }

        boolean isThat(int k, int a, int b, int c) {
            return noteAt(k, 0) == a && noteAt(k, 1) == b && noteAt(k, 2) == c;
        }

        /** In place of the k-th chord, or at the end, if k is how many there are and there is room. */
        void put(int k, int a, int b, int c) {
            if (k < 0 || k > size || k >= CHORDS) {
                return;
            }
            notes[k * NOTES] = a;
            notes[k * NOTES + 1] = b;
            notes[k * NOTES + 2] = c;
            if (k == size) {
                size++;
            }
        }

        void take(int k) {
            for (int i = k * NOTES; i < (size - 1) * NOTES; i++) {
                notes[i] = notes[i + NOTES];
            }
            size--;
        }

        int lowestOf(int c, int hand) {
            for (int i = 0; i < NOTES; i++) {
                if ((hand >> i & 1) == 1) {
                    return notes[c * NOTES + i];
                }
            }
            return NO_NOTE;
        }

        int highestOf(int c, int hand) {
            for (int i = NOTES - 1; i >= 0; i--) {
                if ((hand >> i & 1) == 1) {
                    return notes[c * NOTES + i];
                }
            }
            return NO_NOTE;
        }

        void become(Piece other) {
            size = other.size;
            in = other.in;
            rest = other.rest;
            balance = other.balance;
            for (int i = 0; i < size * NOTES; i++) {
                notes[i] = other.notes[i];
            }
        }
    }

    /** Holds the text, and reads it into rows of its own, so that a fault changes nothing. */
    private static final class Reader {
        private static final int END = -1, NUMBER = -2, WRONG = -3;

        final Band players = new Band();
        final Piece piece = new Piece();
        int length = 0;
        private final int[] text = new int[LETTERS];
        private final int[] chordNotes = new int[NOTES];
        private int at = 0;
        private int start = 0;
        private int token = END;
        private int value = 0;
        private boolean ruled = false;

        /** Only where there is room. */
        void add(int letter) {
            if (length < LETTERS) {
                text[length] = letter;
                length++;
            }
        }

        /** How many items, or FAULT less the place of the token that can't stand. */
        int read() {
            at = 0;
            ruled = false;
            players.empty();
            piece.empty();
            int items = 0;
            next();
            while (token != END && items < LETTERS) {
                if (!readItem()) {
                    return FAULT - start;
                }
                items++;
                next();
            }
            piece.in = (1 << players.size) - 1;
            return items;
        }

        private boolean readItem() {
            switch (token) {
                case 'r': return readPlayer(REED);
                case 'b': return readPlayer(BOW);
                case 'g': return readPlayer(BELL);
                case 'n': return readChord();
                case 'q': return readRules();
                default: return false;
            }
        }

        private boolean readPlayer(int kind) {
            if (!players.hasRoomFor(kind) || !nextIsNumber(0, TOP)) {
                return false;
            }
            int low = value;
            if (!nextIsNumber(low, TOP)) {
                return false;
            }
            int high = value;
            if (!nextIsNumber(WEIGHT_LOW, WEIGHT_HIGH)) {
                return false;
            }
            int weight = value;
            int width = 0;
            if (kind == BOW) {
                if (!nextIsNumber(0, SPAN_HIGH)) {
                    return false;
                }
                width = value;
            }
            players.add(kind, low, high, weight, width);
            return nextEndsItem();
        }

        private boolean readChord() {
            if (piece.size >= CHORDS || !nextIsNumber(0, TOP)) {
                return false;
            }
            chordNotes[0] = value;
            chordNotes[1] = NO_NOTE;
            chordNotes[2] = NO_NOTE;
            for (int i = 1; i <= NOTES; i++) {
                next();
                if (token == ';') {
                    piece.put(piece.size, chordNotes[0], chordNotes[1], chordNotes[2]);
                    return true;
                }
                if (i == NOTES || !isNumber(chordNotes[i - 1] + 1, TOP)) {
                    return false;
                }
                chordNotes[i] = value;
            }
            return false;
        }

        private boolean readRules() {
            if (ruled || !nextIsNumber(0, REST_HIGH)) {
                return false;
            }
            piece.rest = value;
            if (!nextIsNumber(0, BALANCE_HIGH)) {
                return false;
            }
            piece.balance = value;
            ruled = true;
            return nextEndsItem();
        }

        private boolean nextIsNumber(int low, int high) {
            next();
            return isNumber(low, high);
        }

        private boolean isNumber(int low, int high) {
            return token == NUMBER && isWithin(value, low, high);
        }

        private boolean nextEndsItem() {
            next();
            return token == ';';
        }

        /** Every fault is told by where its token starts; that of the text's end is the text's length. */
        private void next() {
            while (at < length && text[at] == ' ') {
                at++;
            }
            start = at;
            while (at < length && isFigure(text[at])) {
                at++;
            }
            if (at > start) {
                token = weigh(at - start);
            } else if (at >= length) {
                token = END;
            } else {
                token = text[at];
                at++;
            }
        }

        /** Two figures are all that a number may have, the first of them no 0: so no value overflows. */
        private int weigh(int figures) {
            value = text[start] - '0';
            if (figures == 1) {
                return NUMBER;
            }
            if (figures > 2 || value == 0) {
                return WRONG;
            }
            value = value * 10 + text[start + 1] - '0';
            return NUMBER;
        }

        private static boolean isFigure(int letter) {
            return letter >= '0' && letter <= '9';
        }
    }

    /**
     * Looks at all spreads of chords. Those of one chord stand in a row, player 0's choice counting most,
     * so that of two spreads the document's first one has the lower place.
     */
    private static final class Search {
        /** No hand has three notes, so a bow has 7 choices at most, the others 4; two may be bows. */
        private static final int CHOICES = 7, ROW = 7 * 7 * 4 * 4;
        private static final int LOUD_BITS = 8, LOUD_MASK = 255;

        final Band players = new Band();
        final Piece piece = new Piece();
        /** Cost of the score, NEVER if there is none. */
        int least = 0;
        private final int[][] choices = new int[CHORDS * PLAYERS][CHOICES];
        private final int[] choiceCount = new int[CHORDS * PLAYERS];
        private final int[][] costs = new int[CHORDS][ROW];
        private final int[] gaps = new int[ROW];
        private final int[] adds = new int[CHOICES];
        private int[] row = new int[ROW];
        private int[] spare = new int[ROW];
        private final int[] need = new int[CHORDS + 1];
        private final int[] chosen = new int[CHORDS * PLAYERS];

        // ---- spreads of one chord

        int evenSpreads(int c, int set) {
            offer(c, set);
            int many = findGaps(c);
            int even = 0;
            for (int s = 0; s < many; s++) {
                if (gaps[s] <= piece.balance) {
                    even++;
                }
            }
            return even;
        }

        /** The hands that each player of the set can have in a chord, rising; 0 alone for the others. */
        private void offer(int c, int set) {
            int hands = Math.min(1 << piece.notesOf(c), CHOICES);
            for (int p = 0; p < PLAYERS; p++) {
                int at = c * PLAYERS + p;
                int many = 1;
                choices[at][0] = 0;
                if (p < players.size && (set >> p & 1) == 1) {
                    for (int h = 1; h < hands; h++) {
                        if (players.manages(p, piece, c, h)) {
                            choices[at][many] = h;
                            many++;
                        }
                    }
                }
                choiceCount[at] = many;
            }
        }

        /** Fills gaps: loudest less least loud of each spread, NEVER where a note is not played. */
        private int findGaps(int c) {
            int many = 1;
            gaps[0] = 0;
            for (int p = 0; p < PLAYERS; p++) {
                int at = c * PLAYERS + p;
                for (int j = 0; j < choiceCount[at]; j++) {
                    adds[j] = packedLoud(p, choices[at][j]);
                }
                many = widen(gaps, many, choiceCount[at]);
            }
            int notes = piece.notesOf(c);
            for (int s = 0; s < many; s++) {
                gaps[s] = gapOf(gaps[s], notes);
            }
            return many;
        }

        /** Loudness of all notes in one number: four players of weight 9 stay far below a note's bits. */
        private int packedLoud(int p, int hand) {
            int strength = players.strength(p, hand);
            int packed = 0;
            for (int i = 0; i < NOTES; i++) {
                if ((hand >> i & 1) == 1) {
                    packed |= strength << i * LOUD_BITS;
                }
            }
            return packed;
        }

        private static int gapOf(int packed, int notes) {
            int most = 0;
            int lowest = NEVER;
            for (int i = 0; i < notes; i++) {
                int loudness = packed >> i * LOUD_BITS & LOUD_MASK;
                most = Math.max(most, loudness);
                lowest = Math.min(lowest, loudness);
            }
            // half of the least weight is 1, so only a note that nobody plays is 0 loud
            return lowest == 0 ? NEVER : most - lowest;
        }

        /** Puts one more player behind those of a row: each place becomes one for each of its adds. */
        private int widen(int[] places, int many, int by) {
            // from the back, so that no place is written over before it was read
            for (int s = many - 1; s >= 0; s--) {
                int sum = places[s];
                for (int j = by - 1; j >= 0; j--) {
                    places[s * by + j] = sum + adds[j];
                }
            }
            return many * by;
        }

        // ---- from chord to chord

        /** MOVE of a player between two hands, NEVER if a bell can't play them one behind the other. */
        int way(int p, int from, int handFrom, int to, int handTo) {
            if (handFrom == 0 || handTo == 0) {
                return handFrom == handTo ? 0 : piece.rest;
            }
            int far = Math.abs(piece.lowestOf(from, handFrom) - piece.lowestOf(to, handTo));
            if (far == 0 && players.kind[p] == BELL) {
                return NEVER;
            }
            return Integer.bitCount(handFrom) == Integer.bitCount(handTo) ? far : far + 2;
        }

        /**
         * The row of one chord's spreads becomes that of its neighbour's, each the least that leads there.
         * Player by player, as each moves for itself: all pairs of spreads would be far more.
         */
        private void carry(int from, int to, boolean withMoves) {
            for (int p = PLAYERS - 1; p >= 0; p--) {
                int others = 1;
                for (int q = 0; q < PLAYERS; q++) {
                    if (q != p) {
                        others *= choiceCount[(q < p ? from : to) * PLAYERS + q];
                    }
                }
                carryPlayer(p, from, to, others, withMoves);
                int[] done = spare;
                spare = row;
                row = done;
            }
        }

        /** The player's choice comes last in row and first in spare: after all players the order is the old one. */
        private void carryPlayer(int p, int from, int to, int others, boolean withMoves) {
            int[] hands = choices[from * PLAYERS + p];
            int[] handsTo = choices[to * PLAYERS + p];
            int many = choiceCount[from * PLAYERS + p];
            int manyTo = choiceCount[to * PLAYERS + p];
            fill(spare, others * manyTo, NEVER);
            for (int y = 0; y < manyTo; y++) {
                for (int x = 0; x < many; x++) {
                    int step = way(p, from, hands[x], to, handsTo[y]);
                    if (step < NEVER) {
                        lower(y * others, (y + 1) * others, x, many, withMoves ? step : 0);
                    }
                }
            }
        }

        /** Places of spare from first on, ahead of end, by every many-th place of row from x on. */
        private void lower(int first, int end, int x, int many, int step) {
            int[] source = row;
            int[] target = spare;
            int at = x;
            for (int place = first; place < end; place++) {
                int sum = source[at] + step;
                if (sum < target[place]) {
                    target[place] = sum;
                }
                at += many;
            }
        }

        private static void fill(int[] places, int many, int with) {
            for (int s = 0; s < many; s++) {
                places[s] = with;
            }
        }

        // ---- which balance is needed

        /** For a set of players and each k: the least balance by which the first k chords have a score. */
        void measure(int set) {
            need[0] = 0;
            for (int c = 0; c < piece.size; c++) {
                offer(c, set);
                int many = findGaps(c);
                if (c == 0) {
                    fill(row, many, 0);
                } else {
                    carry(c - 1, c, false);
                }
                int lowest = NEVER;
                for (int s = 0; s < many; s++) {
                    row[s] = Math.max(row[s], gaps[s]);
                    lowest = Math.min(lowest, row[s]);
                }
                need[c + 1] = lowest;
            }
        }

        int needed(int chords) {
            return chords >= 0 && chords <= piece.size ? need[chords] : NEVER;
        }

        // ---- the score

        /** Behind findCosts: the document's first of the scores that cost least. */
        void chooseFirst() {
            least = 0;
            for (int c = 0; c < piece.size; c++) {
                int place = firstBest(c);
                if (c == 0) {
                    least = costs[0][place];
                }
                if (least >= NEVER) {
                    return;
                }
                choose(c, place);
            }
        }

        /** Backwards: what it costs from each spread on, so that the first best can be chosen forwards. */
        void findCosts() {
            for (int c = piece.size - 1; c >= 0; c--) {
                offer(c, piece.in);
                int many = findGaps(c);
                if (c == piece.size - 1) {
                    fill(row, many, 0);
                } else {
                    carry(c + 1, c, true);
                }
                for (int s = 0; s < many; s++) {
                    if (gaps[s] > piece.balance) {
                        row[s] = NEVER;
                    }
                    costs[c][s] = row[s];
                }
            }
        }

        /** The lowest place of those that cost least behind the spreads chosen so far. */
        private int firstBest(int c) {
            int many = 1;
            spare[0] = 0;
            for (int p = 0; p < PLAYERS; p++) {
                int at = c * PLAYERS + p;
                for (int j = 0; j < choiceCount[at]; j++) {
                    adds[j] = c == 0 ? 0 : way(p, c - 1, handIn(c - 1, p), c, choices[at][j]);
                }
                many = widen(spare, many, choiceCount[at]);
            }
            int best = 0;
            for (int s = 1; s < many; s++) {
                if (spare[s] + costs[c][s] < spare[best] + costs[c][best]) {
                    best = s;
                }
            }
            return best;
        }

        private void choose(int c, int place) {
            int left = place;
            for (int p = PLAYERS - 1; p >= 0; p--) {
                int at = c * PLAYERS + p;
                int many = Math.max(choiceCount[at], 1);
                chosen[at] = choices[at][left % many];
                left /= many;
            }
        }

        int handIn(int c, int p) {
            return chosen[c * PLAYERS + p];
        }

        int handsThatPlay() {
            int many = 0;
            for (int at = 0; at < piece.size * PLAYERS; at++) {
                if (chosen[at] != 0) {
                    many++;
                }
            }
            return many;
        }

        int doubledNotes() {
            int many = 0;
            for (int c = 0; c < piece.size; c++) {
                for (int i = 0; i < NOTES; i++) {
                    if (playersOf(c, i) >= 2) {
                        many++;
                    }
                }
            }
            return many;
        }

        private int playersOf(int c, int i) {
            int many = 0;
            for (int p = 0; p < PLAYERS; p++) {
                many += handIn(c, p) >> i & 1;
            }
            return many;
        }

        /** How loud a note of the score is without one player; with all, if the number is nobody's. */
        int loudWithout(int c, int i, int without) {
            int loudness = 0;
            for (int p = 0; p < PLAYERS; p++) {
                int hand = handIn(c, p);
                if (p != without && (hand >> i & 1) == 1) {
                    loudness += players.strength(p, hand);
                }
            }
            return loudness;
        }

        boolean isEvenWithout(int c, int without) {
            int notes = piece.notesOf(c);
            int packed = 0;
            for (int i = 0; i < notes; i++) {
                packed |= loudWithout(c, i, without) << i * LOUD_BITS;
            }
            return gapOf(packed, notes) <= piece.balance;
        }
    }
}
