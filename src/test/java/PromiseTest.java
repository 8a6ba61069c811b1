/** Every promise by itself, with answers worked out by hand from the document. */
public final class PromiseTest {
    private static final int BAD = -1, STATE = -2, FULL = -3, NONE = -9;
    private static int wrong = 0;
    private static int promise = 0;

    private static void due(String call, int got, int want) {
        if (got != want) {
            wrong++;
            System.out.println("promise " + promise + ": " + call + " answered " + got + ", due is " + want);
        }
    }

    private static void type(ChordSpreads x, String text) {
        for (int i = 0; i < text.length(); i++) x.type(text.charAt(i));
    }

    private static ChordSpreads told(String text) {
        ChordSpreads x = new ChordSpreads();
        type(x, text);
        int items = x.band();
        if (items < 0) due("band() of " + text, items, 0);
        return x;
    }

    private static void bandOf(String text, int want) {
        ChordSpreads x = new ChordSpreads();
        type(x, text);
        due("band() of '" + text + "'", x.band(), want);
        due("count(6) behind it", x.count(6), want < 0 ? text.length() : 0);
    }

    /** Two reeds that move with each other rather than rest, the middle chord having a note for each. */
    private static ChordSpreads pair() {
        return told("r 0 60 4;r 0 60 3;n 10;n 10 20;n 10;q 20 9;");
    }

    private static void counts(ChordSpreads x, int... want) {
        for (int what = 0; what < want.length; what++) due("count(" + what + ")", x.count(what), want[what]);
    }

    private static void newObject() {
        promise = 1;
        ChordSpreads x = new ChordSpreads();
        counts(x, 0, 0, 0, 5, 9, 0, 0, 0);
        due("player(0, 0)", x.player(0, 0), BAD);
        due("chord(0, -1)", x.chord(0, -1), BAD);
        due("undo()", x.undo(), STATE);
        due("back(1)", x.back(1), STATE);
    }

    private static void types() {
        promise = 2;
        ChordSpreads x = new ChordSpreads();
        due("type(-1)", x.type(-1), BAD);
        due("type(256)", x.type(256), BAD);
        due("type(0)", x.type(0), 1);
        due("type(255)", x.type(255), 2);
        for (int i = 3; i <= 150; i++) due("type(32)", x.type(32), i);
        due("type(32) of 151", x.type(32), FULL);
        due("type(256) of 151", x.type(256), BAD);
        due("count(6)", x.count(6), 150);
    }

    private static void clears() {
        promise = 3;
        ChordSpreads x = told("r 0 1 2;n 1;");
        due("clear() of none", x.clear(), 0);
        type(x, "xyz");
        due("clear()", x.clear(), 3);
        due("clear() again", x.clear(), 0);
        due("type(59)", x.type(';'), 1);
        counts(x, 1, 1, 1);
    }

    private static void bands() {
        promise = 4;
        bandOf("", 0);
        bandOf("   ", 0);
        bandOf("r 0 60 9;", 1);
        bandOf("r0 0 2;b1 2 3 0;b1 2 3 12;g4 4 9;n0;n0 59 60;q20 30;n1 2;", 8);
        bandOf("q0 0;", 1);
        bandOf("  n1  ;  n 2 ;", 2);
        bandOf("r 61 61 2;", -12);
        bandOf("r 5 61 2;", -14);
        bandOf("r 5 4 2;", -14);
        bandOf("r 5 6 1;", -16);
        bandOf("r 5 6 10;", -16);
        bandOf("g 5 6;", -15);
        bandOf("r 0 60 2 5;", -19);
        bandOf("b 0 60 2;", -18);
        bandOf("b 0 60 2 13;", -19);
        bandOf("b 0 60 2 12 1;", -22);
        bandOf("r0 1 2;r0 1 2;r0 1 2;r0 1 2;g0 1 2;", -38);
        bandOf("b0 1 2 3;b0 1 2 3;b", -28);
        bandOf("n1;n1;n1;n1;n1;n1;n1;n1;", 8);
        bandOf("n1;n1;n1;n1;n1;n1;n1;n1;n", -34);
        bandOf("n;", -11);
        bandOf("n", -11);
        bandOf("n1", -12);
        bandOf("n1 ", -13);
        bandOf("n 1 2 3", -17);
        bandOf("n61;", -11);
        bandOf("n 99;", -12);
        bandOf("n 100;", -12);
        bandOf("n 99999999999999999999;", -12);
        bandOf("n 4294967297;", -12);
        bandOf("n 01;", -12);
        bandOf("n 00;", -12);
        bandOf("n1 1;", -13);
        bandOf("n2 1;", -13);
        bandOf("n1 2 3 4;", -17);
        bandOf("n1r;", -12);
        bandOf("n1\t2;", -12);
        bandOf("n1;;", -13);
        bandOf("1;", -10);
        bandOf(";", -10);
        bandOf("R0 1 2;", -10);
        bandOf("  x", -12);
        bandOf("q21 0;", -11);
        bandOf("q20 31;", -14);
        bandOf("q5;", -12);
        bandOf("q1 2 3;", -15);
        bandOf("q1 1;q1 1;", -15);
        bandOf("n5 4;x", -13);
        bandAgain();
    }

    private static void bandAgain() {
        ChordSpreads x = told("r 0 60 4;r 0 60 4;n 10;q 3 4;");
        x.calls(1);
        x.keep(0);
        x.hears(0, 1);
        type(x, "n 5 5;");
        due("band() with a fault", x.band(), -14);
        counts(x, 2, 1, 1, 3, 4, 1, 6, 1);
        due("back(0)", x.back(0), 1);
        x.clear();
        type(x, "g 1 2 3;g 1 2 3;g 1 2 3;");
        due("band() anew", x.band(), 3);
        counts(x, 3, 7, 0, 5, 9, 0, 0, 0);
        due("back(0) of an image that is gone", x.back(0), STATE);
        x.calls(1);
        due("score(0) of bells", x.score(0), 0);
        type(x, "n 1;");
        due("band() of a chord alone", x.band(), 1);
        counts(x, 0, 0, 1, 5, 9, 0, 0, 0);
        due("undo() behind band()", x.undo(), STATE);
        due("score(0) behind band()", x.score(0), NONE);
        due("band() of no text", x.band(), 0);
        counts(x, 0, 0, 0, 5, 9, 0, 0, 0);
    }

    private static void players() {
        promise = 5;
        ChordSpreads x = told("r 1 2 3;b 4 50 6 7;g 60 60 9;");
        int[][] want = {{0, 1, 2, 3, 1}, {1, 4, 50, 6, 1}, {2, 60, 60, 9, 1}};
        for (int p = 0; p < 3; p++) {
            for (int what = 0; what < 5; what++) due("player(" + p + ", " + what + ")", x.player(p, what), want[p][what]);
        }
        due("player(3, 0)", x.player(3, 0), BAD);
        due("player(-1, 0)", x.player(-1, 0), BAD);
        due("player(0, 5)", x.player(0, 5), BAD);
        due("player(0, -1)", x.player(0, -1), BAD);
        x.calls(1);
        due("player(1, 4)", x.player(1, 4), 0);
        due("player(0, 4)", x.player(0, 4), 1);
    }

    private static void spans() {
        promise = 6;
        ChordSpreads x = told("b 4 50 6 7;g 60 60 9;r 0 0 2;b 0 0 2 0;");
        due("span(0)", x.span(0), 7);
        due("span(1)", x.span(1), BAD);
        due("span(2)", x.span(2), BAD);
        due("span(3)", x.span(3), 0);
        due("span(4)", x.span(4), BAD);
        due("span(-1)", x.span(-1), BAD);
    }

    private static void chords() {
        promise = 7;
        ChordSpreads x = told("n 7;n 0 60;n 1 2 3;");
        for (int c = 0; c < 3; c++) due("chord(" + c + ", -1)", x.chord(c, -1), c + 1);
        due("chord(1, 1)", x.chord(1, 1), 60);
        due("chord(1, 2)", x.chord(1, 2), NONE);
        due("chord(2, 2)", x.chord(2, 2), 3);
        due("chord(2, 3)", x.chord(2, 3), NONE);
        due("chord(2, 1000000000)", x.chord(2, 1000000000), NONE);
        due("chord(2, -2)", x.chord(2, -2), BAD);
        due("chord(3, 0)", x.chord(3, 0), BAD);
        due("chord(-1, 0)", x.chord(-1, 0), BAD);
    }

    private static void puts() {
        promise = 8;
        ChordSpreads x = new ChordSpreads();
        due("puts(1, 5, -1, -1)", x.puts(1, 5, -1, -1), BAD);
        due("puts(0, 5, 6, 7)", x.puts(0, 5, 6, 7), 1);
        due("puts(0, 5, 6, 7) again", x.puts(0, 5, 6, 7), STATE);
        due("puts(0, 5, 6, -1)", x.puts(0, 5, 6, -1), 1);
        due("chord(0, -1)", x.chord(0, -1), 2);
        int[][] bad = {{-1, -1, -1}, {-1, 5, 6}, {5, -1, 6}, {5, 5, -1}, {6, 5, -1}, {5, 6, 6}, {5, 6, 4},
            {61, -1, -1}, {5, 61, -1}, {5, 6, 61}, {-2, -1, -1}, {5, -2, -1}, {5, 6, -2}, {5, -1, -2}};
        for (int[] n : bad) {
            due("puts(0, " + n[0] + ", " + n[1] + ", " + n[2] + ")", x.puts(0, n[0], n[1], n[2]), BAD);
        }
        due("puts(-1, 5, -1, -1)", x.puts(-1, 5, -1, -1), BAD);
        due("count(7)", x.count(7), 2);
        for (int k = 1; k < 8; k++) due("puts at the end", x.puts(k, 0, 60, -1), k + 1);
        due("puts(8, 1, 2, 3)", x.puts(8, 1, 2, 3), FULL);
        due("puts(8, 1, 1, 3)", x.puts(8, 1, 1, 3), BAD);
        due("puts(9, 1, 2, 3)", x.puts(9, 1, 2, 3), BAD);
        due("puts(7, 0, 60, -1)", x.puts(7, 0, 60, -1), STATE);
        due("puts(7, 1, 2, 3)", x.puts(7, 1, 2, 3), 8);
        due("chord(7, 2)", x.chord(7, 2), 3);
    }

    private static void takes() {
        promise = 9;
        ChordSpreads x = told("n 1;n 2 3;n 4 5 6;");
        due("takes(3)", x.takes(3), BAD);
        due("takes(-1)", x.takes(-1), BAD);
        due("takes(0)", x.takes(0), 2);
        due("chord(0, 1)", x.chord(0, 1), 3);
        due("chord(0, -1)", x.chord(0, -1), 2);
        due("chord(1, 2)", x.chord(1, 2), 6);
        due("takes(1)", x.takes(1), 1);
        due("chord(1, -1)", x.chord(1, -1), BAD);
        due("takes(0)", x.takes(0), 0);
        due("takes(0) of none", x.takes(0), BAD);
    }

    private static void calls() {
        promise = 10;
        ChordSpreads x = told("r 0 1 2;r 0 1 2;");
        due("calls(2)", x.calls(2), BAD);
        due("calls(-1)", x.calls(-1), BAD);
        due("calls(0)", x.calls(0), 0);
        due("count(1)", x.count(1), 2);
        due("calls(1)", x.calls(1), 0);
        due("count(1)", x.count(1), 0);
        due("calls(0)", x.calls(0), 1);
        due("count(1)", x.count(1), 1);
        due("count(7)", x.count(7), 3);
    }

    private static void tells() {
        promise = 11;
        ChordSpreads x = new ChordSpreads();
        due("tells(5, 9)", x.tells(5, 9), STATE);
        due("tells(-1, 9)", x.tells(-1, 9), BAD);
        due("tells(21, 9)", x.tells(21, 9), BAD);
        due("tells(5, -1)", x.tells(5, -1), BAD);
        due("tells(5, 31)", x.tells(5, 31), BAD);
        due("tells(20, 30)", x.tells(20, 30), 1);
        due("tells(20, 0)", x.tells(20, 0), 1);
        due("tells(0, 0)", x.tells(0, 0), 1);
        due("tells(0, 0) again", x.tells(0, 0), STATE);
        counts(x, 0, 0, 0, 0, 0, 0, 0, 3);
    }

    private static void undoes() {
        promise = 12;
        ChordSpreads x = told("r 0 1 2;n 1;n 2 3;");
        due("undo() of none", x.undo(), STATE);
        x.takes(0);
        x.puts(0, 5, -1, -1);
        x.calls(0);
        x.tells(1, 2);
        x.tells(1, 2);
        x.takes(7);
        due("undo() of tells", x.undo(), 3);
        counts(x, 1, 0, 1, 5, 9);
        due("undo() of calls", x.undo(), 2);
        due("count(1)", x.count(1), 1);
        due("undo() of puts", x.undo(), 1);
        due("chord(0, 1)", x.chord(0, 1), 3);
        due("undo() of takes", x.undo(), 0);
        due("chord(0, 0)", x.chord(0, 0), 1);
        due("chord(1, 1)", x.chord(1, 1), 3);
        for (int i = 0; i < 12; i++) x.tells(i, 20);
        due("count(7) of twelve", x.count(7), 10);
        for (int i = 9; i >= 0; i--) {
            due("undo()", x.undo(), i);
            due("count(3)", x.count(3), i + 1);
        }
        due("undo() of the lost ones", x.undo(), STATE);
        due("count(3)", x.count(3), 1);
    }

    private static void coulds() {
        promise = 13;
        ChordSpreads x = told("r 10 20 2;b 10 20 2 4;g 10 20 2;n 9 20;n 12 16 17;n 14;n 14;");
        int[][] want = {{1, 1, 1, 0, 1, 0, 0, 0}, {1, 1, 1, 1, 1, 0, 1, 0}, {1, 1, 1, 0, 1, 0, 0, 0}};
        for (int p = 0; p < 3; p++) {
            for (int hand = 0; hand < 8; hand++) due("could(" + p + ", 1, " + hand + ")", x.could(p, 1, hand), want[p][hand]);
            due("could(" + p + ", 0, 1)", x.could(p, 0, 1), 0);
            due("could(" + p + ", 0, 2)", x.could(p, 0, 2), 1);
            due("could(" + p + ", 0, 4)", x.could(p, 0, 4), BAD);
            due("could(" + p + ", 3, 1)", x.could(p, 3, 1), 1);
            due("could(" + p + ", 3, 2)", x.could(p, 3, 2), BAD);
        }
        x.puts(2, 12, 13, 14);
        due("could(1, 2, 5)", x.could(1, 2, 5), 1);
        due("could(1, 2, 7) of three near notes", x.could(1, 2, 7), 0);
        due("could(0, 1, 8)", x.could(0, 1, 8), BAD);
        due("could(0, 1, -1)", x.could(0, 1, -1), BAD);
        due("could(3, 1, 0)", x.could(3, 1, 0), BAD);
        due("could(0, 4, 0)", x.could(0, 4, 0), BAD);
        x.calls(1);
        due("could(1, 1, 3) of one that is OUT", x.could(1, 1, 3), 1);
    }

    private static void spreads() {
        promise = 14;
        ChordSpreads x = told("r 0 60 5;r 0 60 2;n 10;n 10 12;n 10 11 12;");
        due("spreads(0)", x.spreads(0), 3);
        due("spreads(1)", x.spreads(1), 2);
        due("spreads(2)", x.spreads(2), 0);
        due("spreads(3)", x.spreads(3), BAD);
        due("spreads(-1)", x.spreads(-1), BAD);
        x.tells(5, 3);
        due("spreads(1) by 3", x.spreads(1), 2);
        x.tells(5, 2);
        due("spreads(1) by 2", x.spreads(1), 0);
        x.calls(0);
        due("spreads(0) with one OUT", x.spreads(0), 1);
        ChordSpreads bow = told("b 0 60 5 2;r 0 11 2;n 10 12;n 10 13;q 5 2;");
        // the bow's halves are 2 each, cut: 2, 2 alone; 4, 2 with the reed; bow above, reed below: 2, 5
        due("spreads(0) of a bow", bow.spreads(0), 2);
        due("spreads(1) of a bow", bow.spreads(1), 0);
        ChordSpreads bells = told("g 0 60 2;n 10;n 10;");
        due("spreads(1) of a bell by itself", bells.spreads(1), 1);
    }

    private static void scores() {
        promise = 15;
        ChordSpreads x = pair();
        due("score(0)", x.score(0), 20);
        due("score(1)", x.score(1), 6);
        due("score(2)", x.score(2), 2);
        due("score(3)", x.score(3), BAD);
        due("score(-1)", x.score(-1), BAD);
        x.tells(9, 9);
        due("score(0) by a cheaper rest", x.score(0), 18);
        due("score(1) by a cheaper rest", x.score(1), 4);
        due("score(2) by a cheaper rest", x.score(2), 0);
        x.tells(9, 0);
        due("score(0) that there is not", x.score(0), NONE);
        due("score(3) where there is none", x.score(3), BAD);
        x.undo();
        due("score(0) undone", x.score(0), 18);
        x.calls(0);
        due("score(2) with one OUT", x.score(2), NONE);
        ChordSpreads none = told("r 0 60 4;");
        for (int what = 0; what < 3; what++) due("score(" + what + ") of no chords", none.score(what), 0);
        due("score(0) of no players", told("n 1;").score(0), NONE);
    }

    private static void hands() {
        promise = 16;
        ChordSpreads x = told("r 0 60 4;r 0 60 4;n 10;n 12;");
        int[] still = {0, 1, 0, 1};
        for (int i = 0; i < 4; i++) due("hand(" + i / 2 + ", " + i % 2 + ")", x.hand(i / 2, i % 2), still[i]);
        x.tells(0, 9);
        int[] turns = {0, 1, 1, 0};
        for (int i = 0; i < 4; i++) due("hand(" + i / 2 + ", " + i % 2 + ")", x.hand(i / 2, i % 2), turns[i]);
        x.calls(1);
        due("hand(1, 1) of one that is OUT", x.hand(1, 1), 0);
        due("hand(2, 0)", x.hand(2, 0), BAD);
        due("hand(-1, 0)", x.hand(-1, 0), BAD);
        due("hand(0, 2)", x.hand(0, 2), BAD);
        due("hand(0, -1)", x.hand(0, -1), BAD);
        x.calls(0);
        due("hand(0, 0) of no score", x.hand(0, 0), NONE);
        due("hand(0, 2) of no score", x.hand(0, 2), BAD);
        bellHands();
    }

    /** A bell can't stay on its note, but may come back to it behind a rest or another note. */
    private static void bellHands() {
        ChordSpreads x = told("g 0 60 4;n 10;n 10;n 10;");
        due("hand(0, 0) of one bell", x.hand(0, 0), NONE);
        x.puts(1, 11, -1, -1);
        due("hand(2, 0) of one bell", x.hand(2, 0), 1);
        ChordSpreads two = told("g 0 60 4;g 0 60 4;n 10;n 10;n 10;");
        int[] want = {0, 1, 1, 0, 0, 1};
        for (int i = 0; i < 6; i++) due("hand(" + i / 2 + ", " + i % 2 + ") of bells", two.hand(i / 2, i % 2), want[i]);
        due("score(0) of bells", two.score(0), 20);
    }

    private static void louds() {
        promise = 17;
        ChordSpreads x = pair();
        due("loud(0, 0)", x.loud(0, 0), 7);
        due("loud(1, 0)", x.loud(1, 0), 4);
        due("loud(1, 1)", x.loud(1, 1), 3);
        due("loud(0, 1)", x.loud(0, 1), BAD);
        due("loud(1, 2)", x.loud(1, 2), BAD);
        due("loud(0, -1)", x.loud(0, -1), BAD);
        due("loud(3, 0)", x.loud(3, 0), BAD);
        due("loud(-1, 0)", x.loud(-1, 0), BAD);
        x.calls(0);
        due("loud(0, 0) of no score", x.loud(0, 0), NONE);
        ChordSpreads bow = told("b 0 60 7 4;n 10 14;n 14;");
        due("loud(0, 0) of a bow", bow.loud(0, 0), 3);
        due("loud(0, 1) of a bow", bow.loud(0, 1), 3);
        due("loud(1, 0) of a bow", bow.loud(1, 0), 7);
    }

    private static void rests() {
        promise = 18;
        ChordSpreads x = pair();
        due("couldRest(0)", x.couldRest(0), 3);
        due("couldRest(1)", x.couldRest(1), 0);
        due("couldRest(3)", x.couldRest(3), BAD);
        due("couldRest(-1)", x.couldRest(-1), BAD);
        x.calls(1);
        due("couldRest(0) of no score", x.couldRest(0), NONE);
        // 2 and 3 together are needed by the 9 above: each is doubled, none could rest, as it were not even
        ChordSpreads y = told("r 0 15 2;r 0 15 3;r 16 60 9;n 10 20;q 5 4;");
        due("score(2)", y.score(2), 1);
        due("couldRest(0) of an uneven rest", y.couldRest(0), 0);
        // without the 4 the others are 2 and 5 loud: just what BALANCE bears
        ChordSpreads z = told("r 0 15 4;r 0 15 2;r 16 60 5;n 10 20;n 10 11 20;q 20 3;");
        due("hand(0, 0)", z.hand(0, 0), 1);
        due("hand(0, 1)", z.hand(0, 1), 1);
        due("couldRest(0) by BALANCE itself", z.couldRest(0), 3);
    }

    private static void moves() {
        promise = 19;
        ChordSpreads x = told("b 0 60 7 4;r 40 60 4;n 10 14;n 17;n 17 40;q 6 9;");
        due("move(0, 0)", x.move(0, 0), 9);
        due("move(0, 1)", x.move(0, 1), 0);
        due("move(1, 0)", x.move(1, 0), 0);
        due("move(1, 1)", x.move(1, 1), 6);
        due("move(2, 0)", x.move(2, 0), BAD);
        due("move(-1, 0)", x.move(-1, 0), BAD);
        due("move(0, 2)", x.move(0, 2), BAD);
        due("move(0, -1)", x.move(0, -1), BAD);
        x.calls(0);
        due("move(0, 0) of no score", x.move(0, 0), NONE);
        due("move(2, 0) of no score", x.move(2, 0), BAD);
    }

    private static void reaches() {
        promise = 20;
        ChordSpreads x = told("g 0 60 4;n 10;n 11;n 11;n 12;");
        due("reach()", x.reach(), 2);
        x.takes(2);
        due("reach()", x.reach(), 3);
        x.calls(0);
        due("reach() with all OUT", x.reach(), 0);
        due("reach() of no chords", told("r 0 60 4;").reach(), 0);
        due("reach() by a balance", told("r 0 60 4;r 0 60 9;n 1;n 1 2;q 5 4;").reach(), 1);
        due("reach() by one more", told("r 0 60 4;r 0 60 9;n 1;n 1 2;q 5 5;").reach(), 2);
    }

    private static void fewests() {
        promise = 21;
        ChordSpreads x = told("r 0 15 2;r 0 15 3;r 16 60 9;n 10 20;q 5 4;");
        due("fewest()", x.fewest(), 7);
        x.tells(5, 6);
        due("fewest()", x.fewest(), 6);
        x.tells(5, 7);
        due("fewest()", x.fewest(), 5);
        x.calls(0);
        x.calls(2);
        due("fewest() with some OUT", x.fewest(), 5);
        x.puts(0, 10, -1, -1);
        due("fewest() of one note", x.fewest(), 1);
        x.takes(0);
        due("fewest() of no chords", x.fewest(), 0);
        due("fewest() that there is not", told("g 0 60 2;n 1;n 1;").fewest(), NONE);
    }

    private static void bears() {
        promise = 22;
        ChordSpreads x = told("r 0 15 2;r 0 15 3;r 16 60 9;n 10 20;q 5 0;");
        due("bear()", x.bear(), 4);
        x.calls(1);
        due("bear() with one OUT", x.bear(), 7);
        x.calls(2);
        due("bear() that there is not", x.bear(), NONE);
        x.takes(0);
        due("bear() of no chords", x.bear(), 0);
        // one chord alone goes evenly by the bell; the next has to be played by the heavy reed
        ChordSpreads bell = told("g 0 15 4;r 0 15 9;r 16 60 4;n 10 20;");
        due("bear() of a bell", bell.bear(), 0);
        bell.puts(1, 10, 20, -1);
        due("bear() of a bell that can't stay", bell.bear(), 5);
    }

    private static void hearings() {
        promise = 23;
        ChordSpreads x = told("r 0 60 4;n 1;");
        due("hears(1, 0)", x.hears(1, 0), BAD);
        due("hears(-1, 0)", x.hears(-1, 0), BAD);
        due("hears(0, 2)", x.hears(0, 2), BAD);
        due("hears(0, -1)", x.hears(0, -1), BAD);
        for (int i = 1; i <= 6; i++) due("hears(0, 0)", x.hears(0, 0), i);
        due("hears(0, 1) of seven", x.hears(0, 1), FULL);
        due("hears(1, 1) of seven", x.hears(1, 1), BAD);
        due("count(5)", x.count(5), 6);
        due("count(7)", x.count(7), 0);
    }

    private static void forgets() {
        promise = 24;
        ChordSpreads x = told("r 0 60 4;n 1;");
        due("forget() of nothing", x.forget(), 0);
        x.hears(0, 1);
        x.hears(0, 0);
        due("ill()", x.ill(), 0);
        due("forget()", x.forget(), 2);
        due("count(5)", x.count(5), 0);
        due("ill()", x.ill(), 1);
    }

    private static void ills() {
        promise = 25;
        ChordSpreads x = told("r 0 15 4;r 10 25 4;r 10 25 4;n 5;n 12;n 20;n 5 12 20;");
        due("ill() with nothing heard", x.ill(), 7);
        x.hears(2, 1);
        due("ill()", x.ill(), 7);
        x.hears(0, 1);
        due("ill()", x.ill(), 6);
        x.calls(1);
        due("ill() with one OUT", x.ill(), 0);
        x.undo();
        x.hears(3, 1);
        due("ill() that nobody is", x.ill(), 0);
        x.takes(3);
        due("ill() less a chord", x.ill(), 6);
        x.puts(3, 20, -1, -1);
        due("ill() by another chord", x.ill(), 6);
        x.puts(0, 12, -1, -1);
        due("ill() by chords as they are now", x.ill(), 7);
        ChordSpreads y = told("r 0 60 2;r 0 60 9;r 0 60 9;n 1 2;q 5 6;");
        y.hears(0, 1);
        due("ill() by the balance", y.ill(), 1);
        y.tells(5, 7);
        due("ill() by more balance", y.ill(), 7);
    }

    private static void keeps() {
        promise = 26;
        ChordSpreads x = told("r 0 60 4;n 1;n 2;");
        due("keep(2)", x.keep(2), BAD);
        due("keep(-1)", x.keep(-1), BAD);
        due("keep(1)", x.keep(1), 2);
        due("back(0)", x.back(0), STATE);
        x.takes(0);
        due("keep(1) again", x.keep(1), 1);
        due("count(7)", x.count(7), 1);
        x.takes(0);
        due("back(1)", x.back(1), 1);
        due("chord(0, 0)", x.chord(0, 0), 2);
    }

    private static void backs() {
        promise = 27;
        ChordSpreads x = told("r 0 60 4;r 0 60 4;n 1;n 2 3;q 1 2;");
        x.calls(0);
        x.keep(0);
        x.calls(0);
        x.calls(1);
        x.tells(3, 4);
        x.takes(0);
        x.hears(0, 0);
        x.type('n');
        x.keep(1);
        due("back(2)", x.back(2), BAD);
        due("back(-1)", x.back(-1), BAD);
        due("score(0) ahead of it", x.score(0), NONE);
        due("back(0)", x.back(0), 2);
        counts(x, 2, 2, 2, 1, 2, 1, 1, 0);
        due("undo()", x.undo(), STATE);
        due("chord(0, 0)", x.chord(0, 0), 1);
        due("chord(1, 1)", x.chord(1, 1), 3);
        x.puts(0, 9, -1, -1);
        due("back(1)", x.back(1), 1);
        counts(x, 2, 1, 1, 3, 4, 1, 1, 0);
        due("back(0) again", x.back(0), 2);
        due("chord(0, 0)", x.chord(0, 0), 1);
        x.takes(1);
        due("score(0) behind it", x.score(0), 0);
        x.keep(1);
        x.calls(1);
        due("score(0) with all OUT", x.score(0), NONE);
        due("back(1) with one IN", x.back(1), 1);
        due("score(0) with one IN", x.score(0), 0);
    }

    private static void allCounts() {
        promise = 28;
        ChordSpreads x = told("r 0 60 4;r 0 60 4;g 0 1 2;n 1;n 2 3;q 1 2;");
        x.calls(1);
        x.hears(0, 1);
        x.hears(1, 1);
        x.type('n');
        x.tells(20, 30);
        counts(x, 3, 5, 2, 20, 30, 2, 1, 2);
        due("count(8)", x.count(8), BAD);
        due("count(-1)", x.count(-1), BAD);
    }

    public static void main(String[] args) {
        newObject();
        types();
        clears();
        bands();
        players();
        spans();
        chords();
        puts();
        takes();
        calls();
        tells();
        undoes();
        coulds();
        spreads();
        scores();
        hands();
        louds();
        rests();
        moves();
        reaches();
        fewests();
        bears();
        hearings();
        forgets();
        ills();
        keeps();
        backs();
        allCounts();
        System.out.println(wrong == 0 ? "all answers are as due" : wrong + " answers are not as due");
        if (wrong != 0) System.exit(1);
    }
}
