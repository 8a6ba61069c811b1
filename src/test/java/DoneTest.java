/** What is done and undone: promises 8 to 12, sentence by sentence. */
public final class DoneTest {
    private static final String EIGHT = "tell 'n1;n2;n3;n4;n5;n6;n7;n8;' = 8";

    // ---- promise 8

    @Script.Says("or at the end (k: how many there are): CHORDS")
    static void p08_aChordAtTheEnd() {
        Script.run("puts(0, 5, -1, -1) = 1", "puts(1, 6, 7, -1) = 2", "puts(2, 7, 8, 9) = 3", "count(2) = 3",
            "chord(0, -1..2) = 1 5 NONE NONE", "chord(1, -1..2) = 2 6 7 NONE", "chord(2, -1..2) = 3 7 8 9");
    }

    @Script.Says("is put in place of the k-th")
    static void p08_aChordInPlaceOfTheFirstAMiddleAndTheLastOne() {
        Script.run("tell 'n1;n2;n3;' = 3", "puts(0, 10, 11, 12) = 3", "puts(1, 20, 21, -1) = 3", "puts(2, 30, -1, -1) = 3",
            "chord(0, -1..2) = 3 10 11 12", "chord(1, -1..2) = 2 20 21 NONE", "chord(2, -1..2) = 1 30 NONE NONE",
            "puts(0, 1, -1, -1) = 3", "chord(0, -1..2) = 1 1 NONE NONE", "chord(1, 0) = 20", "count(2) = 3");
    }

    @Script.Says("(k: how many there are)")
    static void p08_aPlaceBehindTheEndIsBad() {
        Script.run("puts({MIN,-1,1,2,7,8,9,MAX}, 5, -1, -1) = BAD", "count(2) = 0", "puts(0, 5, -1, -1) = 1",
            "puts({MIN,-2,-1,2,3,8,9,MAX}, 5, 6, 7) = BAD", "count(2) = 1", "count(7) = 1");
    }

    @Script.Says("each of 1 to 3 notes (0 .. 60)")
    static void p08_notesAre0To60() {
        Script.run("puts(0, 0, -1, -1) = 1", "puts(0, 60, -1, -1) = 1", "puts(0, 0, 60, -1) = 1", "puts(0, 0, 1, 60) = 1",
            "puts(0, 58, 59, 60) = 1", "puts(0, {MIN,-2,61,62,MAX}, -1, -1) = BAD", "puts(0, 5, {MIN,-2,61,62,MAX}, -1) = BAD",
            "puts(0, 5, 6, {MIN,-2,61,62,MAX}) = BAD", "puts(0, 60, 61, -1) = BAD", "puts(0, 59, 60, 61) = BAD",
            "chord(0, 0..2) = 58 59 60", "count(7) = 5");
    }

    @Script.Says("each of 1 to 3 notes")
    static void p08_aChordOfNoNotesIsBad() {
        Script.run("puts(0, -1, -1, -1) = BAD", "puts(0, -1, 5, -1) = BAD", "puts(0, -1, 5, 6) = BAD", "puts(0, -1, -1, 5) = BAD",
            "count(2) = 0", "tell 'n 1 2 3;' = 1", "puts(0..1, -1, -1, -1) = BAD", "puts(0, -1, 2, 3) = BAD");
    }

    @Script.Says("-1: there are no more")
    static void p08_noNoteBehindTheEndOfNotes() {
        Script.run("puts(0, 5, -1, {0,4,5,6,60}) = BAD", "puts(0, 5, -1, {MIN,-2,61,MAX}) = BAD", "puts(0, 5, -1, -1) = 1");
    }

    @Script.Says("of the notes a, b, c (rising")
    static void p08_notesThatDoNotRiseAreBad() {
        Script.run("puts(0, 5, {0,4,5}, -1) = BAD", "puts(0, 5, {0,4,5}, 9) = BAD", "puts(0, 5, 7, {0,4,5,6,7}) = BAD",
            "puts(0, 0, 0, -1) = BAD", "puts(0, 60, 60, -1) = BAD", "puts(0, 5, 60, 60) = BAD", "count(2) = 0",
            "puts(0, 5, 6, 7) = 1");
    }

    @Script.Says("a number is not as told")
    static void p08_numbersOfAnySize() {
        Script.run("tell 'n1;' = 1", "puts({MIN,MAX}, {MIN,MAX}, {MIN,MAX}, {MIN,MAX}) = BAD", "puts(0, MAX, MIN, -1) = BAD",
            "puts(0, {MAX,MIN}, -1, -1) = BAD", "puts(1, 256, 257, 258) = BAD", "puts(0, 1, MAX, MIN) = BAD");
    }

    @Script.Says("STATE: it is that")
    static void p08_aChordThatIsThatAlready() {
        Script.run("tell 'n1;n1 2;n1 2 3;' = 3", "puts(0, 1, -1, -1) = STATE", "puts(1, 1, 2, -1) = STATE", "puts(2, 1, 2, 3) = STATE",
            "count(7) = 0");
    }

    @Script.Says("STATE: it is that")
    static void p08_aChordThatIsNearlyThatIsPut() {
        Script.run("tell 'n1 2 3;' = 1", "puts(0, 1, 2, -1) = 1", "puts(0, 1, -1, -1) = 1", "puts(0, 1, 2, -1) = 1", "puts(0, 1, 2, 3) = 1",
            "puts(0, 1, 2, 4) = 1", "puts(0, 1, 3, 4) = 1", "puts(0, 0, 3, 4) = 1", "count(7) = 7");
    }

    @Script.Says("in place of the k-th, or at the end")
    static void p08_likeAnotherChordIsNoState() {
        Script.run("tell 'n1;n2;' = 2", "puts(2, 2, -1, -1) = 3", "puts(0, 2, -1, -1) = 3", "puts(3, 2, -1, -1) = 4", "puts(0, 2, -1, -1) = STATE");
    }

    @Script.Says("or at the end")
    static void p08_likeOneThatWasTakenIsNoState() {
        Script.run("tell 'n1;n2;' = 2", "takes(1) = 1", "puts(1, 2, -1, -1) = 2", "takes(0) = 1", "puts(1, 2, -1, -1) = 2");
    }

    @Script.Says("FULL: 8")
    static void p08_theEighthChordIsPutTheNinthIsFull() {
        Script.run("tell 'n1;n2;n3;n4;n5;n6;n7;' = 7", "puts(7, 8, -1, -1) = 8", "puts(8, {0,9,60}, -1, -1) = FULL", "puts(8, 8, -1, -1) = FULL",
            "puts(8, 1, 2, 3) = FULL", "count(2) = 8", "count(7) = 1");
    }

    @Script.Says("FULL: 8")
    static void p08_inPlaceOfOneOfEight() {
        Script.run(EIGHT, "puts(0, 9, -1, -1) = 8", "puts(7, 9, 10, -1) = 8", "chord({0,7}, 0) = 9", "chord(7, 1) = 10");
    }

    @Script.Says("the first of these: BAD (a number is not as told, or there is no such thing), STATE (as told), FULL.")
    static void p08_badIsAheadOfStateAndFull() {
        Script.run(EIGHT, "puts({MIN,-1,9,10,MAX}, 1, -1, -1) = BAD", "puts(8, -1, -1, -1) = BAD", "puts(8, 1, 1, -1) = BAD",
            "puts(8, 61, -1, -1) = BAD", "puts(8, 1, -1, 2) = BAD", "puts(7, 8, -1, 9) = BAD", "puts(7, 8, -1, -2) = BAD");
    }

    @Script.Says("STATE (as told), FULL")
    static void p08_stateIsAheadOfFull() {
        Script.run(EIGHT, "puts(7, 8, -1, -1) = STATE", "puts(0, 1, -1, -1) = STATE", "puts(8, 8, -1, -1) = FULL");
    }

    @Script.Says("FULL: 8")
    static void p08_thereIsRoomAgainBehindTakes() {
        Script.run(EIGHT, "takes(3) = 7", "puts(8, 9, -1, -1) = BAD", "puts(7, 9, -1, -1) = 8", "chord(6..7, 0) = 8 9", "puts(8, 9, -1, -1) = FULL");
    }

    // ---- promise 9

    @Script.Says("A CHORD is taken: CHORDS that are left.")
    static void p09_theFirstAMiddleAndTheLastOneAreTaken() {
        Script.run("tell 'n1;n2 3;n4 5 6;' = 3", "takes(0) = 2", "chord(0, -1..2) = 2 2 3 NONE", "chord(1, -1..2) = 3 4 5 6", "chord(2, -1) = BAD");
        Script.run("tell 'n1;n2 3;n4 5 6;' = 3", "takes(1) = 2", "chord(0, -1..2) = 1 1 NONE NONE", "chord(1, -1..2) = 3 4 5 6", "chord(2, -1) = BAD");
        Script.run("tell 'n1;n2 3;n4 5 6;' = 3", "takes(2) = 2", "chord(0, -1..2) = 1 1 NONE NONE", "chord(1, -1..2) = 2 2 3 NONE", "chord(2, -1) = BAD");
    }

    @Script.Says("taken (those behind it have numbers 1 lower)")
    static void p09_ofEightThoseBehindMove() {
        Script.run(EIGHT, "takes(2) = 7", "chord(0..7, 0) = 1 2 4 5 6 7 8 BAD", "takes(0) = 6", "chord(0..6, 0) = 2 4 5 6 7 8 BAD",
            "takes(5) = 5", "chord(0..5, 0) = 2 4 5 6 7 BAD");
    }

    @Script.Says("CHORDS that are left")
    static void p09_theOnlyOneIsTaken() {
        Script.run("tell 'n1;' = 1", "takes(0) = 0", "count(2) = 0", "takes(0) = BAD", "count(7) = 1");
    }

    @Script.Says("A CHORD is taken: CHORDS that are left. BAD.")
    static void p09_noSuchChordIsBad() {
        Script.run("takes({MIN,-1,0,1,MAX}) = BAD", "tell 'n1;n2;' = 2", "takes({MIN,-2,-1,2,3,7,8,MAX}) = BAD", "count(7) = 0",
            EIGHT, "takes({-1,8,9,MAX}) = BAD", "count(2) = 8");
    }

    // ---- promise 10

    @Script.Says("A PLAYER that is IN is OUT then, one that is OUT is IN: 1 IN, 0 OUT.")
    static void p10_eachOfFourIsSentOutAndCalledBack() {
        Script.run("tell 'r0 1 2;b0 1 2 3;g0 1 2;r0 1 2;' = 4", "calls(0) = 0", "count(1) = 14", "calls(3) = 0", "count(1) = 6", "calls(1) = 0",
            "count(1) = 4", "calls(2) = 0", "count(1) = 0", "calls(3) = 1", "count(1) = 8", "calls(0) = 1", "count(1) = 9",
            "calls(1) = 1", "count(1) = 11", "calls(2) = 1", "count(1) = 15", "count(0) = 4", "count(7) = 8");
    }

    @Script.Says("1 IN, 0 OUT. BAD.")
    static void p10_noSuchPlayerIsBad() {
        Script.run("tell 'r0 1 2;r0 1 2;' = 2", "calls({MIN,-32,-1,2,3,4,32,33,MAX}) = BAD", "count(1) = 3", "count(7) = 0");
        Script.run("tell 'r0 1 2;r0 1 2;g0 1 2;g0 1 2;' = 4", "calls(3) = 0", "calls({-1,4,5,MAX}) = BAD", "count(1) = 7");
    }

    @Script.Says("a HAND for each PLAYER (0 for those that are not IN)")
    static void p10_allOutNothingIsPlayed() {
        Script.run("tell 'r0 60 2;n 5;' = 2", "spreads(0) = 1", "score(0) = 0", "calls(0) = 0", "spreads(0) = 0", "score(0) = NONE", "calls(0) = 1",
            "score(0) = 0");
    }

    // ---- promise 11

    @Script.Says("REST and BALANCE: 1.")
    static void p11_restAndBalanceAtTheirBounds() {
        Script.run("tells(0, 0) = 1", "count(3..4) = 0", "tells(20, 30) = 1", "count(3..4) = 20 30", "tells(0, 30) = 1", "count(3..4) = 0 30",
            "tells(20, 0) = 1", "count(3..4) = 20 0");
    }

    @Script.Says("REST (0 .. 20; 5 at first)")
    static void p11_aRestBeyondIsBad() {
        Script.run("tells({MIN,-2,-1,21,22,MAX}, 9) = BAD", "tells({MIN,-1,21,MAX}, {0,8,30}) = BAD", "count(3..4) = 5 9", "count(7) = 0");
    }

    @Script.Says("BALANCE (0 .. 30; 9 at first)")
    static void p11_aBalanceBeyondIsBad() {
        Script.run("tells(5, {MIN,-2,-1,31,32,MAX}) = BAD", "tells({0,6,20}, {MIN,-1,31,MAX}) = BAD", "tells({MIN,MAX}, {MIN,MAX}) = BAD",
            "count(3..4) = 5 9", "count(7) = 0");
    }

    @Script.Says("STATE: they are that.")
    static void p11_theSameAgainIsState() {
        Script.run("tells(5, 9) = STATE", "tells(0, 30) = 1", "tells(0, 30) = STATE", "tells(5, 9) = 1", "tells(5, 9) = STATE", "count(7) = 2");
    }

    @Script.Says("STATE: they are that.")
    static void p11_oneOfThemAnotherIsNoState() {
        Script.run("tells(6, 9) = 1", "count(3..4) = 6 9", "tells(6, 10) = 1", "count(3..4) = 6 10", "tells(5, 10) = 1", "count(3..4) = 5 10");
    }

    @Script.Says({"REST, BALANCE told", "REST and BALANCE: 1. BAD; STATE: they are that."})
    static void p11_theyAreTold() {
        Script.run("tell 'r0 60 4;r0 60 4;n1;n1 2;q0 9;' = 5", "score(0) = 0", "tells(3, 9) = 1", "score(0) = 1", "tells(0, 9) = 1", "score(0) = 0");
    }

    // ---- promise 12

    @Script.Says("STATE: none.")
    static void p12_nothingToUndo() {
        Script.run("undo() = STATE", "tell 'r0 1 2;n1;' = 2", "undo() = STATE", "undo() = STATE", "tells(1, 1) = 1", "undo() = 0", "undo() = STATE");
    }

    @Script.Says("UNDONE: how many more may be.")
    static void p12_eachKindIsUndone() {
        Script.run("tell 'r0 1 2;g0 1 2;n1;n2 3;' = 4", "takes(0) = 1", "puts(0, 5, -1, -1) = 1", "puts(1, 6, 7, 8) = 2", "calls(0) = 0",
            "tells(1, 2) = 1", "calls(0) = 1", "count(7) = 6",
            "undo() = 5", "count(1) = 2", "undo() = 4", "count(3..4) = 5 9", "undo() = 3", "count(1) = 3", "undo() = 2", "count(2) = 1",
            "chord(0, -1..1) = 1 5 NONE", "undo() = 1", "chord(0, -1..2) = 2 2 3 NONE", "undo() = 0", "count(2) = 2",
            "chord(0, -1..1) = 1 1 NONE", "chord(1, -1..2) = 2 2 3 NONE", "undo() = STATE");
    }

    @Script.Says("a PLAYER sent OUT, called IN")
    static void p12_sentOutAndCalledInAreUndone() {
        Script.run("tell 'r0 1 2;g0 1 2;' = 2", "calls(1) = 0", "calls(0) = 0", "calls(1) = 1", "undo() = 2", "count(1) = 0", "undo() = 1", "count(1) = 1",
            "undo() = 0", "count(1) = 3", "undo() = STATE", "count(1) = 3");
    }

    @Script.Says("a CHORD put (at the end, or in place of one), taken")
    static void p12_ofEightChordsTakenAllComeBack() {
        Script.run(EIGHT, "takes(0) = 7", "takes(6) = 6", "takes(3) = 5", "undo() = 2", "chord(0..5, 0) = 2 3 4 5 6 7", "undo() = 1",
            "chord(0..6, 0) = 2 3 4 5 6 7 8", "undo() = 0", "chord(0..7, 0) = 1 2 3 4 5 6 7 8");
    }

    @Script.Says("(10 are known, older ones are lost)")
    static void p12_tenAreKnown() {
        Script.run("tells(0..9, 0) = 1", "count(7) = 10", "undo() = 9", "count(3) = 8", "undo() = 8", "undo() = 7", "undo() = 6", "undo() = 5",
            "undo() = 4", "undo() = 3", "undo() = 2", "undo() = 1", "count(3..4) = 0", "undo() = 0", "count(3..4) = 5 9", "undo() = STATE",
            "count(3..4) = 5 9");
    }

    @Script.Says("older ones are lost")
    static void p12_theEleventhIsLost() {
        Script.run("tells(0..10, 0) = 1", "count(7) = 10", "undo() = 9", "undo() = 8", "undo() = 7", "undo() = 6", "undo() = 5",
            "undo() = 4", "undo() = 3", "undo() = 2", "undo() = 1", "count(3) = 1", "undo() = 0", "count(3..4) = 0", "undo() = STATE",
            "count(3..4) = 0");
    }

    @Script.Says("older ones are lost")
    static void p12_manyAreLost() {
        Script.run("tells(0..20, 0) = 1", "tells(0..4, 1) = 1", "count(7) = 10", "undo() = 9", "count(3..4) = 3 1", "undo() = 8", "undo() = 7",
            "undo() = 6", "count(3..4) = 0 1", "undo() = 5", "count(3..4) = 20 0", "tells(7, 7) = 1", "count(7) = 6", "undo() = 5",
            "undo() = 4", "undo() = 3", "undo() = 2", "undo() = 1", "undo() = 0", "count(3..4) = 15 0", "undo() = STATE");
    }

    @Script.Says("the latest puts(), takes(), calls(), tells() that was not refused")
    static void p12_refusedOnesAreNotUndone() {
        Script.run("tell 'r0 1 2;n1;' = 2", "tells(1, 1) = 1", "puts(0, 1, -1, -1) = STATE", "puts(0, 61, -1, -1) = BAD", "takes(1) = BAD",
            "calls(1) = BAD", "tells(1, 1) = STATE", "tells(21, 1) = BAD", "count(7) = 1", "undo() = 0", "count(3..4) = 5 9");
    }

    @Script.Says("the latest puts(), takes(), calls(), tells()")
    static void p12_nothingElseCanBeUndone() {
        Script.run("tell 'r0 1 2;n1;' = 2", "text 'xy'", "clear() = 2", "hears(0, 1) = 1", "forget() = 1", "keep(0) = 1", "score(0) = 0",
            "count(7) = 0", "undo() = STATE", "calls(0) = 0", "hears(0, 1) = 1", "keep(1) = 1", "type(65) = 1", "count(7) = 1", "undo() = 0",
            "count(5..6) = 1", "back(1) = 1", "count(1) = 0");
    }

    @Script.Says("UNDONE: the latest")
    static void p12_anUndoneOneCanBeDoneAnew() {
        Script.run("tells(1, 1) = 1", "tells(2, 2) = 1", "undo() = 1", "tells(3, 3) = 1", "count(7) = 2", "undo() = 1", "count(3) = 1",
            "tells(2, 2) = 1", "undo() = 1", "undo() = 0", "count(3) = 5");
    }

    @Script.Says("10 are known")
    static void p12_afterUndoesTenAreKnownAgain() {
        Script.run("tells(0..9, 0) = 1", "undo() = 9", "undo() = 8", "tells(0..3, 1) = 1", "count(7) = 10", "undo() = 9", "undo() = 8",
            "undo() = 7", "undo() = 6", "undo() = 5", "undo() = 4", "undo() = 3", "undo() = 2", "undo() = 1", "undo() = 0",
            "count(3..4) = 1 0", "undo() = STATE");
    }

    @Script.Says("UNDONE: how many more may be.")
    static void p12_theScoreIsUndoneToo() {
        Script.run("tell 'r0 60 4;n1;n5;' = 3", "score(0) = 4", "puts(1, 9, -1, -1) = 2", "score(0) = 8", "undo() = 0", "score(0) = 4");
    }

    public static void main(String[] args) {
        Script.runAll(DoneTest.class);
    }
}
