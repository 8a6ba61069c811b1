/** Who is ill, images, counts: promises 23 to 28, sentence by sentence. */
public final class IllAndImageTest {
    /** Chord 0 is player 0's alone, chord 1 everybody's, chord 2 that of players 1 and 2. */
    private static final String THREE = "tell 'r 0 15 4;r 10 25 4;r 10 25 4;n 5;n 12;n 20;' = 6";

    // ---- promise 23

    @Script.Says("HEARD (is 1, 0): how much there is.")
    static void p23_howMuchIsHeard() {
        Script.run(THREE, "hears(0, 0) = 1", "hears(2, 1) = 2", "count(5) = 2");
    }

    @Script.Says("FULL: 6")
    static void p23_theSixthIsHeardTheSeventhIsFull() {
        Script.run(THREE, "hears(0, {0,1,0,1,1,1}) = 1 2 3 4 5 6", "hears(0..2, 0..1) = FULL", "count(5) = 6", "forget() = 6", "hears(0, 0) = 1");
    }

    @Script.Says("HEARD (6 at most)")
    static void p23_theSameMayBeHeardAgainAndCounts() {
        Script.run(THREE, "hears(0, 0) = 1", "hears(0, 0) = 2", "ill() = 1", "forget() = 2");
    }

    @Script.Says("the first of these: BAD")
    static void p23_badIsAheadOfFull() {
        Script.run(THREE, "hears(0, {0,1,0,1,1,1})", "hears({MIN,-1,3,MAX}, 0) = BAD", "hears(0, {MIN,-1,2,MAX}) = BAD", "hears(0, 0) = FULL");
    }

    @Script.Says("(is 1, 0)")
    static void p23_neither1Nor0IsBad() {
        Script.run(THREE, "hears(0..2, {MIN,-2,-1,2,3,MAX}) = BAD", "count(5) = 0", "hears(0, 0..1) = 1 2");
    }

    @Script.Says("how much there is. BAD")
    static void p23_noSuchChordIsBad() {
        Script.run("hears({MIN,-1,0,MAX}, 0..1) = BAD", THREE, "hears({MIN,-2,-1,3,4,8,MAX}, 0..1) = BAD", "hears(2, 1) = 1", "takes(2) = 2",
            "hears(2, 1) = BAD", "count(5) = 1");
        Script.run("tell '" + "n1;".repeat(8) + "' = 8", "hears(7..8, 1) = 1 BAD");
    }

    // ---- promise 24

    @Script.Says("Nothing is HEARD: how much was.")
    static void p24_forgetNothingSomeAndAll() {
        Script.run("forget() = 0", THREE, "forget() = 0", "hears(0, 1) = 1", "forget() = 1", "forget() = 0", "count(5) = 0",
            "hears(0, {0,1,0,1,1,1}) = 1 2 3 4 5 6", "forget() = 6", "forget() = 0");
    }

    @Script.Says("Nothing is HEARD")
    static void p24_whatWasForgottenIsNotAskedAnyMore() {
        Script.run(THREE, "hears(0, 0) = 1", "hears(2, 1) = 2", "ill() = 1", "forget() = 2", "ill() = 7", "hears(0, 1) = 1", "ill() = 6");
    }

    // ---- promise 25

    @Script.Says("PLAYERS (bits) that are IN by which all that was HEARD is so")
    static void p25_nothingHeardAllThatAreIn() {
        Script.run("ill() = 0", THREE, "ill() = 7", "calls(1) = 0", "ill() = 5", "calls(0) = 0", "calls(2) = 0", "ill() = 0");
        Script.run("tell 'r0 1 2;r0 1 2;r0 1 2;r0 1 2;' = 4", "ill() = 15");
    }

    @Script.Says("has an EVEN SPREAD (1), or none (0)")
    static void p25_oneOrNone() {
        Script.run(THREE, "hears(0, 1) = 1", "ill() = 6", "forget() = 1", "hears(0, 0) = 1", "ill() = 1", "forget() = 1", "hears(1, 1) = 1", "ill() = 7",
            "forget() = 1", "hears(1, 0) = 1", "ill() = 0");
    }

    @Script.Says("all that was HEARD is so")
    static void p25_allThatWasHeard() {
        Script.run(THREE, "hears(2, 1) = 1", "ill() = 7", "hears(0, 1) = 2", "ill() = 6", "hears(0, 0) = 3", "ill() = 0");
        // the last of six is asked too
        Script.run(THREE, "hears(1, {1,1,1,1,1}) = 1 2 3 4 5", "ill() = 7", "hears(0, 0) = 6", "ill() = 1");
    }

    @Script.Says("with one unknown PLAYER that is IN being ill (OUT)")
    static void p25_whoIsOutIsNotIll() {
        Script.run(THREE, "calls(1) = 0", "hears(2, 0) = 1", "ill() = 4", "calls(1) = 1", "ill() = 0", "calls(0) = 0", "hears(0, 0) = 2", "ill() = 0",
            "calls(2) = 0", "ill() = 2");
        Script.run(THREE, "calls(0) = 0", "hears(0, 0) = 1", "ill() = 6", "forget() = 1", "hears(0, 1) = 1", "ill() = 0");
    }

    @Script.Says("a CHORD of CHORDS as they are, alone")
    static void p25_aChordAlone() {
        // one behind the other a bell could not play them, alone it can
        Script.run("tell 'g 0 60 4;g 0 60 4;n 10;n 10;' = 4", "hears(1, 1) = 1", "ill() = 3");
    }

    @Script.Says("has an EVEN SPREAD (1)")
    static void p25_evenByBalanceAsItIsNow() {
        Script.run("tell 'r 0 60 2;r 0 60 9;r 0 60 9;n 1 2;q 5 6;' = 5", "hears(0, 1) = 1", "ill() = 1", "tells(5, 7) = 1", "ill() = 7", "undo() = 0",
            "ill() = 1");
    }

    @Script.Says("CHORDS being as they are now")
    static void p25_chordsAsTheyAreNow() {
        Script.run(THREE, "hears(0, 0) = 1", "ill() = 1", "puts(0, 12, -1, -1) = 3", "ill() = 0", "puts(0, 12, 13, 20) = 3", "ill() = 7", "undo() = 1",
            "ill() = 0", "undo() = 0", "ill() = 1");
        // chord 0 is taken: what was heard of number 0 is asked of the chord that has that number now
        Script.run(THREE, "hears(0, 1) = 1", "ill() = 6", "takes(0) = 2", "ill() = 7");
    }

    @Script.Says("(of a CHORD that there is not any more nothing is asked)")
    static void p25_ofAChordThatThereIsNotNothingIsAsked() {
        Script.run(THREE, "hears(2, 0) = 1", "hears(0, 1) = 2", "ill() = 0", "takes(2) = 2", "ill() = 6", "count(5) = 2", "takes(0) = 1", "ill() = 7",
            "takes(0) = 0", "ill() = 7", "count(5) = 2");
    }

    @Script.Says("ILL (bits), CHORDS being as they are now")
    static void p25_aChordThatIsThereAgainIsAskedAgain() {
        Script.run(THREE, "hears(2, 0) = 1", "ill() = 0", "takes(2) = 2", "ill() = 7", "puts(2, 5, -1, -1) = 3", "ill() = 1", "undo() = 1", "undo() = 0",
            "ill() = 0");
    }

    @Script.Says("IMAGES 0, 1 keep CHORDS, who is IN, REST, BALANCE; nothing else")
    static void p25_whatWasHeardStaysBehindBackAndUndo() {
        Script.run(THREE, "keep(0) = 3", "takes(2) = 2", "hears(0, 0) = 1", "back(0) = 3", "count(5) = 1", "ill() = 1", "calls(1) = 0", "hears(2, 0) = 2",
            "ill() = 0", "undo() = 0", "count(5) = 2", "forget() = 2", "back(0) = 3", "count(5) = 0");
    }

    // ---- promise 26

    @Script.Says("An IMAGE is kept: CHORDS.")
    static void p26_bothImagesEachForItself() {
        Script.run("keep(0) = 0", "puts(0, 1, -1, -1) = 1", "keep(1) = 1", "puts(1, 2, 3, -1) = 2", "back(0) = 0", "count(2) = 0", "back(1) = 1",
            "chord(0, 0) = 1", "back(0) = 0");
        Script.run("tell '" + "n1;".repeat(8) + "' = 8", "keep(1) = 8", "back(0) = STATE", "takes(0) = 7", "back(1) = 8");
    }

    @Script.Says("An IMAGE is kept: CHORDS. BAD.")
    static void p26_noSuchImageIsBad() {
        Script.run("tell 'n1;' = 1", "keep({MIN,-2,-1,2,3,MAX}) = BAD", "back(0..1) = STATE");
    }

    @Script.Says("An IMAGE is kept")
    static void p26_keptAgainItIsTheNewOne() {
        Script.run("tell 'r0 1 2;n1;n2;' = 3", "keep(0) = 2", "takes(0) = 1", "calls(0) = 0", "tells(1, 2) = 1", "keep(0) = 1", "calls(0) = 1", "tells(3, 4) = 1",
            "takes(0) = 0", "back(0) = 1", "chord(0, 0) = 2", "count(1..4) = 0 1 1 2");
    }

    @Script.Says("An IMAGE is kept")
    static void p26_whatIsDoneBehindKeepDoesNotReachTheImage() {
        Script.run("tell 'n1;n2 3;' = 2", "keep(0) = 2", "puts(0, 9, -1, -1) = 2", "puts(1, 9, -1, -1) = 2", "back(0) = 2", "chord(0, -1..1) = 1 1 NONE",
            "chord(1, -1..1) = 2 2 3", "puts(1, 8, -1, -1) = 2", "back(0) = 2", "chord(1, 1) = 3");
    }

    @Script.Says("nothing can be UNDONE behind back()")
    static void p26_keepLeavesWhatCanBeUndone() {
        Script.run("tell 'n1;' = 1", "tells(1, 1) = 1", "keep(0) = 1", "count(7) = 1", "undo() = 0", "count(3) = 5", "back(0) = 1", "count(3) = 1");
    }

    // ---- promise 27

    @Script.Says("All of that becomes as an IMAGE has it: CHORDS.")
    static void p27_chordsWhoIsInRestAndBalance() {
        Script.run("tell 'r0 60 4;r0 60 4;n1;n2 3;q1 2;' = 5", "calls(0) = 0", "keep(0) = 2", "calls(0) = 1", "calls(1) = 0", "tells(3, 4) = 1",
            "puts(0, 7, 8, 9) = 2", "takes(1) = 1", "back(0) = 2", "count(0..4) = 2 2 2 1 2", "chord(0, -1..1) = 1 1 NONE", "chord(1, -1..2) = 2 2 3 NONE",
            "player(0..1, 4) = 0 1");
    }

    @Script.Says("STATE: none was kept.")
    static void p27_noneWasKept() {
        Script.run("back(0..1) = STATE", "tell 'n1;' = 1", "back(0..1) = STATE", "keep(0) = 1", "back(1) = STATE", "back(0) = 1", "keep(1) = 1", "back(1) = 1");
    }

    @Script.Says("BAD; STATE: none was kept.")
    static void p27_badIsAheadOfState() {
        Script.run("back({MIN,-2,-1,2,3,MAX}) = BAD", "tell 'n1;' = 1", "keep(0..1) = 1", "back({MIN,-1,2,MAX}) = BAD");
    }

    @Script.Says("(nothing can be UNDONE behind back())")
    static void p27_nothingCanBeUndoneBehindBack() {
        Script.run("tells(0..9, 0) = 1", "keep(0) = 0", "count(7) = 10", "back(0) = 0", "count(7) = 0", "undo() = STATE", "tells(7, 7) = 1", "undo() = 0",
            "count(3..4) = 9 0", "undo() = STATE");
    }

    @Script.Says("(nothing can be UNDONE behind back())")
    static void p27_aRefusedBackLeavesWhatCanBeUndone() {
        Script.run("tells(1, 1) = 1", "back(0) = STATE", "back(2) = BAD", "count(7) = 1", "undo() = 0", "count(3..4) = 5 9");
    }

    @Script.Says("IMAGES 0, 1 keep CHORDS, who is IN, REST, BALANCE; nothing else")
    static void p27_textAndWhatWasHeardStay() {
        Script.run("tell 'r0 60 4;n1;' = 2", "hears(0, 0) = 1", "text 'n2'", "keep(1) = 1", "hears(0, 0) = 2", "text ';'", "back(1) = 1", "count(5..6) = 2 3",
            "band() = 1", "chord(0, 0) = 2");
    }

    @Script.Says("All of that becomes as an IMAGE has it")
    static void p27_anImageMayBeComeBackToOftenAndAfterAFault() {
        Script.run("tell 'r0 60 4;n1;n5;' = 3", "keep(1) = 2", "takes(0) = 1", "back(1) = 2", "takes(1) = 1", "back(1) = 2", "tell 'x' = -10", "takes(0) = 1",
            "back(1) = 2", "chord(0..1, 0) = 1 5");
    }

    @Script.Says("All of that becomes as an IMAGE has it")
    static void p27_theScoreIsThatOfTheImage() {
        Script.run("tell 'r0 60 4;n1;n5;' = 3", "keep(0) = 2", "puts(1, 9, -1, -1) = 2", "score(0) = 8", "back(0) = 2", "score(0) = 4");
    }

    // ---- promise 28

    @Script.Says("0 PLAYERS, 1 those that are IN (bits), 2 CHORDS, 3 REST, 4 BALANCE, 5 HEARD, 6 letters of THE TEXT, 7 how many may be UNDONE")
    static void p28_eachOfEight() {
        Script.run("count(0..7) = 0 0 0 5 9 0 0 0", "tell 'r0 60 4;r0 60 4;g0 1 2;n1;n2 3;q1 2;' = 6", "count(0..7) = 3 7 2 1 2 0 0 0", "calls(1) = 0",
            "hears(0, 1) = 1", "hears(1, 1) = 2", "text 'abc'", "tells(20, 30) = 1", "puts(2, 9, -1, -1) = 3", "count(0..7) = 3 5 3 20 30 2 3 3");
    }

    @Script.Says("7 how many may be UNDONE. BAD.")
    static void p28_noSuchCountIsBad() {
        Script.run("count({MIN,-9,-1,8,9,MAX}) = BAD", "tell 'r0 60 4;n1;' = 2", "count({MIN,-1,8,MAX}) = BAD");
    }

    @Script.Says("0 PLAYERS, 1 those that are IN (bits), 2 CHORDS")
    static void p28_countsWhenAllIsFull() {
        Script.run("tell 'b0 1 9 1;b0 1 9 1;r0 1 9;g0 1 9;n1;n1;n1;n1;n1;n1;n1;n1;q20 30;' = 13", "hears(7, {1,1,1,1,1,1})", "tells(0..9, 0) = 1",
            "tells(20, 30) = 1", "text '" + " ".repeat(60) + "'", "count(0..7) = 4 15 8 20 30 6 60 10");
        Script.run("text '" + " ".repeat(150) + "'", "count(6) = 150");
    }

    public static void main(String[] args) {
        Script.runAll(IllAndImageTest.class);
    }
}
