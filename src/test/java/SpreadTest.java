/** Hands and spreads: promises 13 and 14 and what Terms say of them, sentence by sentence. */
public final class SpreadTest {
    // ---- promise 13

    @Script.Says("Each plays notes within its RANGE alone.")
    static void p13_notesWithinTheRangeAlone() {
        for (String player : new String[] {"r 10 20 2;", "b 10 20 2 12;", "g 10 20 2;"}) {
            Script.run("tell '" + player + "n 9;n 10;n 20;n 21;n 0;n 60;n 9 15 21;' = 8", "could(0, 0..5, 1) = 0 1 1 0 0 0",
                "could(0, 6, {1,2,4}) = 0 1 0");
        }
        Script.run("tell 'r 30 30 2;n 29 30 31;n 30;' = 3", "could(0, 0, {1,2,4}) = 0 1 0", "could(0, 1, 1) = 1");
        Script.run("tell 'r 0 60 2;n 0;n 60;' = 3", "could(0, 0..1, 1) = 1");
    }

    @Script.Says("which of the CHORD's notes it plays, as bits (bit 0: the first)")
    static void p13_bitsOfAHand() {
        Script.run("tell 'r 10 10 4;r 20 20 4;r 30 30 4;n 10 20 30;n 30;n 20 30;' = 6", "could(0, 0, {1,2,4}) = 1 0 0", "could(1, 0, {1,2,4}) = 0 1 0",
            "could(2, 0, {1,2,4}) = 0 0 1", "could(0..2, 1, 1) = 0 0 1", "could(1, 2, 1..2) = 1 0", "could(2, 2, 1..2) = 0 1", "hand(0, 0..2) = 1 2 4",
            "hand(1, 0..2) = 0 0 1", "hand(2, 0..2) = 0 1 2");
    }

    @Script.Says("0 a REED: it plays one note, or none")
    static void p13_aReedPlaysOneNoteOrNone() {
        Script.run("tell 'r 0 60 2;n 1 2 3;n 1 2;n 1;' = 4", "could(0, 0, 0..7) = 1 1 1 0 1 0 0 0", "could(0, 1, 0..3) = 1 1 1 0",
            "could(0, 2, 0..1) = 1");
    }

    @Script.Says("2 a BELL: one or none")
    static void p13_aBellPlaysOneNoteOrNone() {
        Script.run("tell 'g 0 60 2;n 1 2 3;n 1 2;n 1;' = 4", "could(0, 0, 0..7) = 1 1 1 0 1 0 0 0", "could(0, 1, 0..3) = 1 1 1 0",
            "could(0, 2, 0..1) = 1");
    }

    @Script.Says("1 a BOW (2 at most): one, two of which the higher is at most its SPAN (0 .. 12) above the lower, or none")
    static void p13_aBowPlaysTwoNotesWithinItsSpan() {
        Script.run("tell 'b 0 60 2 4;n 10 14;n 10 15;n 10 11 14;n 10 14 18;n 10 12 15;' = 6", "could(0, 0, 0..3) = 1", "could(0, 1, 0..3) = 1 1 1 0",
            "could(0, 2, 0..7) = 1 1 1 1 1 1 1 0", "could(0, 3, 0..7) = 1 1 1 1 1 0 1 0", "could(0, 4, 0..7) = 1 1 1 1 1 0 1 0");
    }

    @Script.Says("at most its SPAN (0 .. 12) above the lower")
    static void p13_aBowAtTheBoundsOfSpan() {
        Script.run("tell 'b 0 60 2 0;b 0 60 2 12;n 10 11;n 10 22;n 10 23;n 0 60;' = 6", "could(0, 0..3, 3) = 0", "could(1, 0..3, 3) = 1 1 0 0",
            "could(0..1, 3, 1..2) = 1");
    }

    @Script.Says("one, two of which the higher is at most its SPAN")
    static void p13_aBowNeverPlaysThreeNotes() {
        Script.run("tell 'b 0 60 9 12;n 10 11 12;' = 2", "could(0, 0, 7) = 0");
    }

    @Script.Says("Each plays notes within its RANGE alone.")
    static void p13_bothNotesOfABowAreWithinItsRange() {
        Script.run("tell 'b 10 20 2 12;n 9 12;n 18 21;n 10 20;n 9 21;' = 5", "could(0, 0..3, 3) = 0 0 1 0", "could(0, 0, 1..2) = 0 1",
            "could(0, 1, 1..2) = 1 0");
    }

    @Script.Says("Whether a PLAYER could have a HAND (0 .. 7) in a CHORD by itself")
    static void p13_handZeroCanAlwaysBe() {
        Script.run("tell 'r 0 0 2;b 0 0 2 0;g 0 0 2;n 50;n 50 51 52;' = 5", "could(0..2, 0..1, 0) = 1", "could(0..2, 0, 1) = 0",
            "could(0..2, 1, 1..7) = 0");
    }

    @Script.Says("(IN or not; no CHORD ahead; 1, 0)")
    static void p13_inOrNot() {
        Script.run("tell 'r 0 10 2;b 0 10 2 1;n 5 6 20;' = 3", "calls(0..1) = 0", "could(0, 0, 0..7) = 1 1 1 0 0 0 0 0",
            "could(1, 0, 0..7) = 1 1 1 1 0 0 0 0");
    }

    @Script.Says("no CHORD ahead")
    static void p13_aBellByItselfMayPlayTheNoteOfTheChordAhead() {
        Script.run("tell 'g 0 60 2;n 10;n 10;n 10 11;' = 4", "could(0, 0..1, 1) = 1", "could(0, 2, 1..2) = 1");
    }

    @Script.Says("BAD (a HAND of notes that the CHORD has not, too)")
    static void p13_aHandOfNotesThatTheChordHasNot() {
        Script.run("tell 'b 0 60 2 12;n 10;n 10 11;n 10 11 12;' = 4", "could(0, 0, 0..8) = 1 1 BAD BAD BAD BAD BAD BAD BAD",
            "could(0, 1, 0..8) = 1 1 1 1 BAD BAD BAD BAD BAD", "could(0, 2, 6..9) = 1 0 BAD BAD");
    }

    @Script.Says("a HAND (0 .. 7)")
    static void p13_noSuchHandIsBad() {
        Script.run("tell 'b 0 60 2 12;n 10 11 12;n 10;' = 3", "could(0, 0..1, {MIN,-8,-1,8,9,16,32,MAX}) = BAD");
    }

    @Script.Says("there is no such thing")
    static void p13_noSuchPlayerOrChordIsBad() {
        Script.run("tell 'r 0 60 2;r 0 60 2;n 10;n 11;' = 4", "could({MIN,-1,2,3,4,MAX}, 0..1, 0..1) = BAD",
            "could(0..1, {MIN,-1,2,3,8,MAX}, 0..1) = BAD", "could(-1, -1, -1) = BAD", "could(1, 1, 1) = 1");
    }

    // ---- promise 14

    @Script.Says("so that each note is played by some")
    static void p14_eachNoteIsPlayed() {
        Script.run("tell 'r 0 60 4;n 10;n 10 11;n 10 11 12;' = 4", "spreads(0..2) = 1 0 0");
        Script.run("tell 'r 0 60 4;r 0 60 4;n 10;n 10 11;n 10 11 12;' = 5", "spreads(0..2) = 3 2 0");
        Script.run("tell 'r 0 60 4;r 0 60 4;r 0 60 4;n 10;n 10 11;n 10 11 12;' = 6", "spreads(0..2) = 7 12 6");
        Script.run("tell 'r 0 10 4;r 0 60 4;n 11;n 10 11;n 11 12;' = 5", "spreads(0..2) = 1 1 0");
    }

    @Script.Says("How many EVEN SPREADS a CHORD has by itself.")
    static void p14_asManyAsThereCanBe() {
        // bows have 7 hands, the others 4: 784, less those by which a note is not played: 784 - 3 * 144 + 3 * 16 - 1
        Script.run("tell 'b 0 60 9 12;b 0 60 9 12;r 0 60 9;g 0 60 9;n 10 11 12;q 0 30;' = 6", "spreads(0) = 399");
        Script.run("tell 'r 0 60 9;g 0 60 9;b 0 60 9 12;b 0 60 9 12;n 10 11 12;q 0 30;' = 6", "spreads(0) = 399");
    }

    @Script.Says("How many EVEN SPREADS a CHORD has")
    static void p14_noPlayersHaveNoSpread() {
        Script.run("tell 'n 10;n 10 11 12;' = 2", "spreads(0..1) = 0");
    }

    @Script.Says("if the LOUDEST note is no more than BALANCE louder than the least loud one")
    static void p14_evenByBalanceItself() {
        Script.run("tell 'r 0 60 7;r 0 60 4;n 10 11;q 5 3;' = 4", "spreads(0) = 2", "tells(5, 2) = 1", "spreads(0) = 0", "tells(5, 4) = 1",
            "spreads(0) = 2");
        Script.run("tell 'r 0 60 4;r 0 60 4;n 10 11;q 5 0;' = 4", "spreads(0) = 2");
        // three notes: the middle one is neither the loudest nor the least loud
        Script.run("tell 'r 10 10 9;r 20 20 2;r 30 30 6;n 10 20 30;q 5 7;' = 5", "spreads(0) = 1", "tells(5, 6) = 1", "spreads(0) = 0");
        Script.run("tell 'r 10 10 2;r 20 20 6;r 30 30 9;n 10 20 30;q 5 7;' = 5", "spreads(0) = 1", "tells(5, 6) = 1", "spreads(0) = 0");
        Script.run("tell 'r 10 10 6;r 20 20 9;r 30 30 2;n 10 20 30;q 5 7;' = 5", "spreads(0) = 1", "tells(5, 6) = 1", "spreads(0) = 0");
    }

    @Script.Says("BALANCE (0 .. 30; 9 at first)")
    static void p14_aChordOfOneNoteIsAlwaysEven() {
        Script.run("tell 'r 0 60 9;r 0 60 9;r 0 60 9;r 0 60 9;n 10;q 5 0;' = 6", "spreads(0) = 15");
    }

    @Script.Says("the WEIGHTS of those that play it, together")
    static void p14_weightsTogether() {
        // 9 + 9 + 9 against 2 is 25 louder
        Script.run("tell 'r 10 10 9;r 10 10 9;r 10 10 9;r 20 20 2;n 10 20;q 5 25;' = 6", "spreads(0) = 7", "tells(5, 24) = 1", "spreads(0) = 6",
            "tells(5, 15) = 1", "spreads(0) = 3", "tells(5, 7) = 1", "spreads(0) = 3", "tells(5, 6) = 1", "spreads(0) = 0");
    }

    @Script.Says("of one that plays two notes half of it, cut")
    static void p14_halfOfAWeightCut() {
        // 9 on two notes is 4 and 4, the reed's 4 is just as loud; of 8 it is the same
        Script.run("tell 'b 10 11 9 1;r 20 20 4;n 10 11 20;q 5 0;' = 4", "spreads(0) = 1");
        Script.run("tell 'b 10 11 8 1;r 20 20 4;n 10 11 20;q 5 0;' = 4", "spreads(0) = 1");
        Script.run("tell 'b 10 11 7 1;r 20 20 4;n 10 11 20;q 5 0;' = 4", "spreads(0) = 0", "tells(5, 1) = 1", "spreads(0) = 1");
        Script.run("tell 'b 10 11 3 1;r 20 20 9;n 10 11 20;q 5 8;' = 4", "spreads(0) = 1", "tells(5, 7) = 1", "spreads(0) = 0");
        Script.run("tell 'b 10 11 2 1;n 10 11;q 5 0;' = 3", "spreads(0) = 1");
    }

    @Script.Says("(0 for those that are not IN)")
    static void p14_thoseThatAreNotInHaveHandZero() {
        Script.run("tell 'r 0 60 4;r 0 60 4;r 0 60 4;n 10;n 10 11;' = 5", "spreads(0..1) = 7 12", "calls(1) = 0", "spreads(0..1) = 3 2", "calls(0) = 0",
            "spreads(0..1) = 1 0", "calls(2) = 0", "spreads(0..1) = 0", "calls(1) = 1", "spreads(0..1) = 1 0");
    }

    @Script.Says("a CHORD has by itself")
    static void p14_bellsOfAChordByItself() {
        Script.run("tell 'g 0 60 4;n 10;n 10;' = 3", "spreads(0..1) = 1", "score(0) = NONE");
    }

    @Script.Says("How many EVEN SPREADS a CHORD has by itself. BAD.")
    static void p14_noSuchChordIsBad() {
        Script.run("spreads({MIN,-1,0,MAX}) = BAD", "tell 'r 0 60 4;n 10;n 11;' = 3", "spreads({MIN,-2,-1,2,3,8,MAX}) = BAD", "spreads(0..1) = 1",
            "takes(1) = 1", "spreads(1) = BAD");
        Script.run("tell 'r 0 60 4;" + "n1;".repeat(8) + "' = 9", "spreads(7..9) = 1 BAD BAD");
    }

    public static void main(String[] args) {
        Script.runAll(SpreadTest.class);
    }
}
