/** The score: promises 15 to 22 and what Terms say of it, sentence by sentence. */
public final class ScoreTest {
    /** One reed: chord 1 has a note too many for it. */
    private static final String NO_SCORE = "tell 'r 0 60 4;n 10;n 10 11;n 10;' = 4";
    /** The bow's halves and the reed: BALANCE and a dear REST leave one score. */
    private static final String BOW_AND_REED = "tell 'b 0 60 9 5;r 10 10 4;n 10 12;n 10 30 34;q 20 4;' = 5";
    /** All four play throughout: a rest is dear, and chords 1 and 2 need three of them each. */
    private static final String FOUR = "tell 'r10 11 4;r10 11 4;r20 21 4;r20 21 4;n10 20;n10 11 20;n10 20 21;q20 4;' = 8";
    private static final String EIGHT = "n1;n2;n4;n8;n16;n32;n31;n30;";

    // ---- promise 15

    @Script.Says("THE SCORE: 0 its COST, 1 how many HANDS are not 0, 2 how many notes of CHORDS are DOUBLED")
    static void p15_costHandsAndDoubledNotes() {
        Script.run("tell 'r 0 60 4;r 0 60 3;n 10;n 10 20;n 10;q 20 9;' = 6", "score(0..2) = 20 6 2");
        Script.run(BOW_AND_REED, "score(0..2) = 20 4 1", "hand(0, 0..1) = 3 1", "hand(1, 0..1) = 6 1");
    }

    @Script.Says("(No CHORDS: COST 0.)")
    static void p15_noChordsCostNothing() {
        Script.run("score(0..2) = 0", "tell 'r 0 60 4;' = 1", "score(0..2) = 0", "calls(0) = 0", "score(0..2) = 0", "calls(0) = 1",
            "puts(0, 5, -1, -1) = 1", "score(0..2) = 0 1 0", "takes(0) = 0", "score(0..2) = 0");
    }

    @Script.Says("COST: all MOVES of all PLAYERS.")
    static void p15_oneChordCostsNothing() {
        Script.run("tell 'r 0 60 4;n 60;' = 2", "score(0..2) = 0 1 0");
        Script.run("tell 'r 0 60 4;b 0 60 4 12;n 0 48 60;q 20 30;' = 4", "score(0..2) = 0 2 0");
    }

    @Script.Says("COST: all MOVES of all PLAYERS.")
    static void p15_allMovesOfEightChordsAndFourPlayers() {
        Script.run("tell 'r 0 60 4;" + EIGHT + "' = 9", "score(0..2) = 33 8 0", "move(0..6, 0) = 1 2 4 8 16 1 1");
        // from end to end of the notes: seven moves of 58 and more
        Script.run("tell 'b0 60 9 0;r0 60 9;g0 60 9;n0 1 2;n58 59 60;n0 1 2;n58 59 60;n0 1 2;n58 59 60;n0 1 2;n58 59 60;' = 11",
            "score(0..2) = 1218 24 0");
    }

    @Script.Says("NONE: there is none")
    static void p15_noneWhereThereIsNoScore() {
        Script.run(NO_SCORE, "score(0..2) = NONE", "puts(1, 10, -1, -1) = 3", "score(0..2) = 0 3 0", "undo() = 0", "score(0..2) = NONE");
        Script.run("tell 'n 10;' = 1", "score(0..2) = NONE");
        Script.run("tell 'r 0 60 4;n 10;' = 2", "calls(0) = 0", "score(0..2) = NONE");
    }

    @Script.Says("NONE: there is none. BAD.")
    static void p15_noSuchThingOfAScoreIsBad() {
        Script.run("score({MIN,-2,-1,3,4,MAX}) = BAD", NO_SCORE, "score({MIN,-1,3,MAX}) = BAD", "score(2) = NONE", "takes(1) = 2",
            "score({MIN,-1,3,MAX}) = BAD", "score(2) = 0");
    }

    @Script.Says("DOUBLED: a note that two PLAYERS or more play.")
    static void p15_aNoteThatThreePlayIsOneDoubledNote() {
        Script.run("tell 'r 0 60 4;r 0 60 4;r 0 60 4;n 10;n 10 11 12;n 10;q 20 30;' = 7", "score(0..2) = 6 9 2");
        // two notes of chord 0 are doubled, one of chord 1, one of chord 2
        Script.run(FOUR, "score(0..2) = 3 12 4");
    }

    @Script.Says("an EVEN SPREAD for each CHORD")
    static void p15_everySpreadOfTheScoreIsEven() {
        Script.run("tell 'r 0 60 7;r 0 60 4;n 10 11;q 5 3;' = 4", "score(0) = 0", "tells(5, 2) = 1", "score(0) = NONE");
        // the cheapest is not even: both on 10 is too loud beside 20
        Script.run("tell 'r 10 10 4;r 10 10 4;r 20 20 4;n 10;n 10 20;q 20 3;' = 6", "score(0..1) = 20 3", "tells(20, 4) = 1", "score(0..1) = 20 3");
    }

    @Script.Says("THE SCORE: that of the least COST")
    static void p15_theLeastCostByRestOrByMoving() {
        // two notes come behind one: a rest more, or both play ahead of it too
        Script.run("tell 'r 0 60 4;r 0 60 4;n 10;n 10 20;q 9 9;' = 5", "score(0..2) = 9 3 0", "tells(10, 9) = 1", "score(0..2) = 10 3 0",
            "tells(11, 9) = 1", "score(0..2) = 10 4 1");
    }

    // ---- promise 16

    @Script.Says("of several that whose first CHORD gives PLAYER 0 the lowest HAND (as a number)")
    static void p16_playerZeroHasTheLowestHand() {
        Script.run("tell 'r 0 60 4;r 0 60 4;n 10;' = 3", "hand(0, 0..1) = 0 1");
        Script.run("tell 'r 0 60 4;b 0 60 8 12;n 10 11 12;' = 3", "hand(0, 0..1) = 1 6");
        Script.run("tell 'b 0 60 8 12;r 0 60 4;n 10 11 12;' = 3", "hand(0, 0..1) = 3 4");
        Script.run("tell 'b 0 60 8 12;n 10 11;' = 2", "hand(0, 0) = 3");
    }

    @Script.Says("then PLAYER 1 ..")
    static void p16_thenTheNextPlayers() {
        Script.run("tell 'r 0 60 4;r 0 60 4;r 0 60 4;n 10 11;' = 4", "hand(0, 0..2) = 0 1 2");
        Script.run("tell 'r 0 60 4;r 0 60 4;r 0 60 4;r 0 60 4;n 10 11 12;' = 5", "hand(0, 0..3) = 0 1 2 4");
        Script.run("tell 'r 12 12 4;r 0 60 4;b 0 60 8 12;r 10 10 4;n 10 11 12;' = 5", "hand(0, 0..3) = 0 0 6 1");
    }

    @Script.Says("then the second CHORD ..")
    static void p16_thenTheSecondChord() {
        // 40 by moving, and by two rests of 20: the one that gives player 0 the lower hand in chord 1
        Script.run("tell 'r 0 20 4;r 0 60 4;n 50;n 10;q 20 9;' = 5", "score(0) = 40", "hand(0, 0..1) = 0 1", "hand(1, 0..1) = 0 1",
            "tells(19, 9) = 1", "score(0) = 38", "hand(1, 0..1) = 1 0");
    }

    @Script.Says("whose first CHORD gives PLAYER 0 the lowest HAND")
    static void p16_theFirstChordIsAheadOfTheSecond() {
        Script.run("tell 'r 0 60 4;r 0 60 4;n 10;n 12;q 0 9;' = 5", "score(0) = 0", "hand(0, 0..1) = 0 1", "hand(1, 0..1) = 1 0");
        Script.run("tell 'r 0 60 4;r 0 60 4;n 10;n 12;n 14;q 0 9;' = 6", "hand(0, 0..1) = 0 1", "hand(1, 0..1) = 1 0", "hand(2, 0..1) = 0 1");
    }

    @Script.Says("THE SCORE: that of the least COST")
    static void p16_costIsAheadOfLowHands() {
        Script.run("tell 'r 0 60 4;r 40 60 4;n 50;n 10;q 5 9;' = 5", "score(0) = 10", "hand(0, 0..1) = 0 1", "hand(1, 0..1) = 1 0",
            "tells(20, 9) = 1", "score(0) = 40", "hand(0, 0..1) = 0 1", "tells(20, 30) = 1", "puts(1, 11, -1, -1) = 2", "score(0) = 39",
            "hand(0, 0..1) = 1 0", "hand(1, 0..1) = 1 0");
    }

    @Script.Says("but not the very note that it played in the chord just ahead")
    static void p16_aBellCantPlayTheNoteOfTheChordJustAhead() {
        Script.run("tell 'g 0 60 4;n 10;n 10;' = 3", "hand(0..1, 0) = NONE", "puts(1, 11, -1, -1) = 2", "hand(0..1, 0) = 1", "score(0) = 1");
        Script.run("tell 'g 0 60 4;r 10 10 4;n 10;n 10;q 0 9;' = 5", "hand(0, 0..1) = 0 1", "hand(1, 0..1) = 0 1");
    }

    @Script.Says("the very note")
    static void p16_theSameNoteAtAnotherPlaceOfTheChord() {
        Script.run("tell 'g 10 10 4;r 0 60 4;n 10 20;n 5 10;' = 4", "score(0) = NONE", "reach() = 1");
        Script.run("tell 'r 10 10 4;r 0 60 4;n 10 20;n 5 10;' = 4", "score(0) = 15", "hand(1, 0..1) = 2 1");
        Script.run("tell 'g 10 11 4;r 0 60 4;n 10 20;n 5 11;' = 4", "score(0) = 16", "hand(0, 0..1) = 1 2", "hand(1, 0..1) = 2 1");
    }

    @Script.Says("in the chord just ahead")
    static void p16_aBellComesBackBehindARestOrAnotherNote() {
        Script.run("tell 'g 0 60 4;n 10;n 11;n 10;' = 4", "score(0) = 2", "hand(0..2, 0) = 1");
        Script.run("tell 'g 10 10 4;r 20 20 4;n 10;n 20;n 10;q 3 9;' = 6", "score(0) = 12", "hand(0..2, 0) = 1 0 1", "hand(0..2, 1) = 0 1 0");
        Script.run("tell 'g 0 60 4;g 0 60 4;n 10;n 10;n 10;' = 5", "score(0) = 20", "hand(0, 0..1) = 0 1", "hand(1, 0..1) = 1 0",
            "hand(2, 0..1) = 0 1");
    }

    @Script.Says("but not the very note that it played")
    static void p16_reedsAndBowsMayPlayTheirNoteAgain() {
        Script.run("tell 'r 0 60 4;n 10;n 10;' = 3", "score(0) = 0", "hand(0..1, 0) = 1");
        Script.run("tell 'b 0 60 4 2;n 10 12;n 10 12;' = 3", "score(0) = 0", "hand(0..1, 0) = 3");
    }

    @Script.Says("a HAND for each PLAYER (0 for those that are not IN)")
    static void p16_whoIsOutHasHandZero() {
        Script.run("tell 'r 0 60 4;r 0 60 4;n 10;n 12;q 0 9;' = 5", "calls(1) = 0", "hand(0..1, 0) = 1", "hand(0..1, 1) = 0", "score(0) = 2",
            "calls(0) = 0", "calls(1) = 1", "hand(0..1, 0) = 0", "hand(0..1, 1) = 1");
    }

    @Script.Says("HAND of a PLAYER in a CHORD of THE SCORE; NONE: there is none.")
    static void p16_noneWhereThereIsNoScore() {
        Script.run(NO_SCORE, "hand(0..2, 0) = NONE");
    }

    @Script.Says("NONE: there is none. BAD.")
    static void p16_noSuchChordOrPlayerIsBad() {
        Script.run("tell 'r 0 60 4;r 0 60 4;n 10;n 11;' = 4", "hand({MIN,-1,2,3,8,MAX}, 0..1) = BAD", "hand(0..1, {MIN,-1,2,3,4,MAX}) = BAD",
            "hand(1, 1) = 1");
        Script.run(NO_SCORE, "hand({-1,3,MAX}, 0) = BAD", "hand(0, {-1,1,MAX}) = BAD");
        Script.run("tell 'r0 60 4;r0 60 4;r0 60 4;r0 60 4;q20 9;" + EIGHT + "' = 13", "hand(7, 3) = 1", "hand({8,MAX}, 3) = BAD", "hand(7, {4,MAX}) = BAD");
    }

    // ---- promise 17

    @Script.Says("How LOUD the i-th note of a CHORD is in THE SCORE")
    static void p17_weightsTogetherAndHalves() {
        Script.run(BOW_AND_REED, "loud(0, 0..1) = 8 4", "loud(1, 0..2) = 4");
        Script.run("tell 'r 0 60 4;r 0 60 3;n 10;n 10 20;n 10;q 20 9;' = 6", "loud(0..2, 0) = 7 4 7", "loud(1, 1) = 3");
    }

    @Script.Says("of one that plays two notes half of it, cut")
    static void p17_halfOfAWeightCut() {
        String[] halves = {"1", "1", "2", "2", "3", "3", "4", "4"};
        for (int weight = 2; weight <= 9; weight++) {
            Script.run("tell 'b 0 60 " + weight + " 4;n 10 14;n 14;' = 3", "loud(0, 0..1) = " + halves[weight - 2], "loud(1, 0) = " + weight);
        }
    }

    @Script.Says("BAD (no such note, too)")
    static void p17_noSuchNoteIsBad() {
        Script.run("tell 'r 0 60 4;r 0 60 4;r 0 60 4;n 10;n 10 11;n 10 11 12;' = 6", "loud(0, {MIN,-1,1,2,3,MAX}) = BAD",
            "loud(1, {MIN,-2,-1,2,3,MAX}) = BAD", "loud(2, {MIN,-1,3,4,MAX}) = BAD", "loud(2, 2) = 4");
    }

    @Script.Says("How LOUD the i-th note of a CHORD is")
    static void p17_noSuchChordIsBad() {
        Script.run("tell 'r 0 60 4;n 10;n 11;' = 3", "loud({MIN,-1,2,3,8,MAX}, 0) = BAD", "loud(1, 0) = 4");
    }

    @Script.Says("NONE: there is none")
    static void p17_noneWhereThereIsNoScore() {
        Script.run(NO_SCORE, "loud(0..2, 0) = NONE", "loud(1, 1) = NONE", "loud(0, {-1,1}) = BAD", "loud(1, 2) = BAD", "loud({-1,3}, 0) = BAD");
    }

    // ---- promise 18

    @Script.Says("COULD REST: a PLAYER that plays in a CHORD of THE SCORE, where the SPREAD were still one")
    static void p18_whoDoublesCouldRest() {
        Script.run(BOW_AND_REED, "couldRest(0..1) = 2 0");
        Script.run("tell 'r 0 60 4;r 0 60 4;r 0 60 4;n 10;n 10 11 12;n 10;q 20 30;' = 7", "couldRest(0..2) = 7 0 7");
    }

    @Script.Says("a PLAYER that plays in a CHORD")
    static void p18_whoDoesNotPlayIsNotNamed() {
        Script.run("tell 'r 0 60 4;r 0 60 4;n 10;' = 3", "hand(0, 0..1) = 0 1", "couldRest(0) = 0");
    }

    @Script.Says("and EVEN, if it alone had HAND 0 there")
    static void p18_theRestLeavesTheSpreadEvenByBalanceItself() {
        // all three play chord 0, as chord 1 needs them; without the 4 it is 2 against 5
        String ahead = "tell 'r 0 15 4;r 0 15 2;r 16 60 5;n 10 20;n 10 11 20;q 20 3;' = 6";
        Script.run(ahead, "hand(0, 0..2) = 1 1 2", "couldRest(0..1) = 3 0", "tells(20, 4) = 1", "couldRest(0) = 3");
        Script.run("tell 'r 0 15 4;r 0 15 2;r 16 60 6;n 10 20;n 10 11 20;q 20 4;' = 6", "couldRest(0) = 3");
        Script.run("tell 'r 0 15 2;r 0 15 3;r 16 60 9;n 10 20;q 5 4;' = 5", "hand(0, 0..2) = 1 1 2", "couldRest(0) = 0");
        Script.run("tell 'r 0 15 2;r 0 15 3;r 16 60 9;n 10 20;n 10;q 20 6;' = 6", "couldRest(0) = 0", "couldRest(1) = 0");
    }

    @Script.Says("if it alone had HAND 0 there")
    static void p18_eachAloneThoughNotAllTogether() {
        Script.run("tell 'r 0 60 4;r 0 60 3;n 10;n 10 20;n 10;q 20 9;' = 6", "couldRest(0..2) = 3 0 3");
    }

    @Script.Says("PLAYERS (bits) that COULD REST in a CHORD of THE SCORE")
    static void p18_allOfFourPlayers() {
        Script.run(FOUR, "couldRest(0..2) = 15 12 3");
    }

    @Script.Says("PLAYERS (bits) that COULD REST in a CHORD of THE SCORE; NONE: there is none. BAD.")
    static void p18_noneAndBad() {
        Script.run(NO_SCORE, "couldRest(0..2) = NONE", "couldRest({MIN,-1,3,4,8,MAX}) = BAD", "takes(1) = 2", "couldRest({-1,2,MAX}) = BAD",
            "couldRest(0..1) = 0");
    }

    // ---- promise 19

    @Script.Says("both HANDS 0: 0")
    static void p19_bothHandsZero() {
        Script.run("tell 'r 0 60 4;r 50 60 4;n 10;n 12;q 20 9;' = 5", "move(0, 0..1) = 2 0", "calls(1) = 0", "move(0, 1) = 0");
    }

    @Script.Says("one of them: REST")
    static void p19_oneHandZero() {
        Script.run("tell 'r 0 60 4;r 50 60 4;n 10;n 10 50;n 10;q 7 9;' = 6", "move(0..1, 1) = 7", "move(0..1, 0) = 0", "score(0) = 14",
            "tells(0, 9) = 1", "move(0..1, 1) = 0", "score(0) = 0", "tells(20, 9) = 1", "move(0..1, 1) = 20", "score(0) = 40");
    }

    @Script.Says("how far its lowest note of the one is from its lowest one of the other")
    static void p19_fromLowestNoteToLowestNote() {
        Script.run("tell 'b 0 60 8 12;n 10 15;n 20 32;n 10 11;' = 4", "move(0..1, 0) = 10", "score(0) = 20");
        Script.run("tell 'b 20 60 4 0;r 0 19 4;n 10 30;n 12 35;n 0 60;' = 5", "move(0, 0..1) = 5 2", "move(1, 0..1) = 25 12", "score(0) = 44");
        Script.run("tell 'r 0 60 4;n 0;n 60;n 60;n 0;' = 5", "move(0..2, 0) = 60 0 60");
    }

    @Script.Says("and 2 more, if the one HAND has two notes, the other one")
    static void p19_twoMoreFromOneNoteToTwoAndBack() {
        Script.run("tell 'b 0 60 8 12;n 10;n 12 15;n 10;n 10 11;n 10 12;' = 6", "move(0..3, 0) = 4 4 2 0", "score(0) = 10");
    }

    @Script.Says("BAD (of the last CHORD, too)")
    static void p19_ofTheLastChordIsBad() {
        Script.run("tell 'r 0 60 4;n 10;n 12;n 15;' = 4", "move(0..3, 0) = 2 3 BAD BAD", "takes(2) = 2", "move(0..1, 0) = 2 BAD", "takes(1) = 1",
            "move(0, 0) = BAD", "takes(0) = 0", "move(0, 0) = BAD");
        Script.run("tell 'r 0 60 4;" + EIGHT + "' = 9", "move(6..8, 0) = 1 BAD BAD");
    }

    @Script.Says("MOVE of a PLAYER from a CHORD to the next one in THE SCORE; NONE: there is none. BAD")
    static void p19_noSuchChordOrPlayerIsBad() {
        Script.run("tell 'r 0 60 4;r 0 60 4;n 10;n 12;' = 4", "move({MIN,-2,-1,1,2,8,MAX}, 0..1) = BAD", "move(0, {MIN,-1,2,3,4,MAX}) = BAD",
            "move(0, 0..1) = 0 2");
        Script.run(NO_SCORE, "move(0..1, 0) = NONE", "move({-1,2,3,MAX}, 0) = BAD", "move(0, {-1,1,MAX}) = BAD");
    }

    // ---- promise 20

    @Script.Says("How many CHORDS from the first one on have a SCORE by themselves (as many as can be).")
    static void p20_noneOneSomeAndAllOfEight() {
        Script.run("reach() = 0", "tell 'r 0 60 4;' = 1", "reach() = 0", "tell 'r 0 60 4;" + EIGHT + "' = 9", "reach() = 8", "puts(7, 1, 2, -1) = 8",
            "reach() = 7", "puts(4, 1, 2, -1) = 8", "reach() = 4", "puts(1, 1, 2, -1) = 8", "reach() = 1", "puts(0, 1, 2, -1) = 8", "reach() = 0",
            "undo() = 3", "reach() = 1");
    }

    @Script.Says("from the first one on")
    static void p20_chordsBehindOneThatCantBeDontCount() {
        Script.run(NO_SCORE, "reach() = 1", "takes(1) = 2", "reach() = 2");
    }

    @Script.Says("that BELLS can play one behind the other")
    static void p20_bellsOneBehindTheOther() {
        Script.run("tell 'g 0 60 4;n 1;n 2;n 1;n 1;n 2;' = 6", "reach() = 3");
        // the reed can only play 10, so the bell has to play 20 twice
        Script.run("tell 'g 0 60 4;r 10 10 4;n 10;n 10 20;n 10 20;n 10;' = 6", "reach() = 2");
        // the bell may keep away from 10 in chord 0 so that it can play it in chord 1
        Script.run("tell 'g 0 60 4;r 0 11 4;n 10;n 10 20;n 20;' = 5", "reach() = 2");
        Script.run("tell 'g 10 10 4;r 0 60 4;n 10;n 10 20;n 20;' = 5", "reach() = 3");
    }

    @Script.Says("an EVEN SPREAD for each CHORD")
    static void p20_byBalance() {
        Script.run("tell 'r 0 60 4;r 0 60 9;n 1;n 1 2;q 5 4;' = 5", "reach() = 1", "tells(5, 5) = 1", "reach() = 2", "calls(0) = 0", "reach() = 1",
            "calls(1) = 0", "reach() = 0");
    }

    // ---- promise 21

    @Script.Says("there is a SCORE those of the fewest PLAYERS")
    static void p21_theFewestPlayers() {
        Script.run("tell 'r 10 10 4;r 10 10 5;r 0 15 9;r 20 20 9;n 10 20;q 5 0;' = 6", "fewest() = 12");
        Script.run("tell 'r 10 10 4;r 10 10 5;r 0 9 9;r 20 20 9;n 10 20;q 5 0;' = 6", "fewest() = 11");
        Script.run("tell 'r 1 1 4;r 2 2 4;r 3 3 4;r 4 4 4;n1 2;n3 4;' = 6", "fewest() = 15");
        Script.run("tell 'r 1 1 4;r 1 2 4;n 1;n 2;' = 4", "fewest() = 2");
    }

    @Script.Says("of several the least number (bits)")
    static void p21_ofSeveralTheLeastNumber() {
        Script.run("tell 'r 10 10 4;r 10 10 4;r 20 20 4;r 20 20 4;n 10 20;' = 5", "fewest() = 5");
        Script.run("tell 'r 20 20 4;r 10 10 4;r 20 20 4;r 10 10 4;n 10 20;' = 5", "fewest() = 3");
        Script.run("tell 'r 30 30 4;r 10 20 4;r 10 20 4;r 10 20 4;n 10 20;' = 5", "fewest() = 6");
        Script.run("tell 'r 0 60 4;r 0 60 4;r 0 60 4;r 0 60 4;n 10;' = 5", "fewest() = 1");
        Script.run("tell 'r 0 9 4;r 0 9 4;r 0 9 4;r 0 60 4;n 10;' = 5", "fewest() = 8");
    }

    @Script.Says("of sets of PLAYERS (IN or not)")
    static void p21_inOrNot() {
        Script.run("tell 'r 10 10 4;r 20 20 4;n 10 20;' = 3", "fewest() = 3", "calls(0) = 0", "score(0) = NONE", "fewest() = 3", "calls(1) = 0",
            "fewest() = 3", "count(1) = 0");
    }

    @Script.Says("by which (all others OUT) there is a SCORE")
    static void p21_ofNoChordsNobodyIsNeeded() {
        Script.run("fewest() = 0", "tell 'r 10 10 4;r 20 20 4;' = 2", "fewest() = 0", "puts(0, 10, -1, -1) = 1", "fewest() = 1", "takes(0) = 0",
            "fewest() = 0");
    }

    @Script.Says("FEWEST (bits); NONE.")
    static void p21_noneWhereAllAreTooFew() {
        Script.run(NO_SCORE, "fewest() = NONE");
        Script.run("tell 'n 1;' = 1", "fewest() = NONE");
        Script.run("tell 'g 0 60 4;n 1;n 1;' = 3", "fewest() = NONE");
        Script.run("tell 'r 0 60 9;r 0 60 4;n 1 2;q 5 4;' = 4", "fewest() = NONE", "tells(5, 5) = 1", "fewest() = 3");
    }

    @Script.Says("that BELLS can play one behind the other")
    static void p21_bellsTakeTurns() {
        Script.run("tell 'g 0 60 4;g 0 60 4;n 1;n 1;' = 4", "fewest() = 3");
        Script.run("tell 'g 0 60 4;g 0 60 4;r 0 60 4;n 1;n 1;' = 5", "fewest() = 4");
    }

    // ---- promise 22

    @Script.Says("BEAR: the least BALANCE (0 .. 30) by which there is a SCORE.")
    static void p22_theLeastBalance() {
        Script.run("tell 'r 0 15 2;r 0 15 3;r 16 60 9;n 10 20;q 5 0;' = 5", "bear() = 4", "tells(5, 3) = 1", "score(0) = NONE", "tells(5, 4) = 1",
            "score(0) = 0", "tells(5, 30) = 1", "bear() = 4", "count(4) = 30");
    }

    @Script.Says("the least BALANCE (0 .. 30)")
    static void p22_noBalanceIsNeededForEvenNotes() {
        Script.run("bear() = 0", "tell 'r 0 60 9;n 1;n 2;' = 3", "bear() = 0", "tell 'r 0 60 9;r 0 60 9;n 1;n 1 2;' = 4", "bear() = 0",
            "tell 'b 0 60 9 9;n 1 10;' = 2", "bear() = 0");
    }

    @Script.Says("the least BALANCE (0 .. 30)")
    static void p22_theMostThatCanBeNeeded() {
        Script.run("tell 'r 0 15 2;r 16 60 9;n 10 20;' = 3", "bear() = 7");
        Script.run("tell 'b 0 15 3 9;r 16 60 9;n 10 11 20;' = 3", "bear() = 8");
    }

    @Script.Says("by which there is a SCORE")
    static void p22_theChordThatNeedsMostTells() {
        Script.run("tell 'r 0 15 4;r 16 60 6;r 16 60 9;n 10 20;' = 4", "bear() = 2", "puts(1, 10, 20, 21) = 2", "bear() = 5", "puts(2, 10, 20, -1) = 3",
            "bear() = 5", "takes(1) = 2", "bear() = 2");
    }

    @Script.Says("that BELLS can play one behind the other")
    static void p22_whatBellsCantPlayIsBorne() {
        Script.run("tell 'g 0 15 4;r 0 15 9;r 16 60 4;n 10 20;' = 4", "bear() = 0", "puts(1, 10, 20, -1) = 2", "bear() = 5");
    }

    @Script.Says("BEAR; NONE.")
    static void p22_noneWhereNoBalanceHelps() {
        Script.run(NO_SCORE, "bear() = NONE", "takes(1) = 2", "bear() = 0", "calls(0) = 0", "bear() = NONE", "takes(0) = 1", "takes(0) = 0", "bear() = 0");
        Script.run("tell 'g 0 60 4;n 1;n 1;q 5 30;' = 4", "bear() = NONE");
    }

    @Script.Says("BEAR: the least BALANCE")
    static void p22_byThoseThatAreIn() {
        Script.run("tell 'r 0 15 2;r 0 15 3;r 16 60 9;n 10 20;q 5 0;' = 5", "calls(1) = 0", "bear() = 7", "calls(0) = 0", "bear() = NONE", "calls(1) = 1",
            "bear() = 6");
    }

    @Script.Says("(Nothing is changed.)")
    static void p22_askingChangesNothing() {
        Script.run(BOW_AND_REED, "hears(0, 1) = 1", "keep(0) = 2", "calls(1) = 0", "fewest() = 3", "bear() = NONE", "reach() = 1", "ill() = 0",
            "score(0) = NONE", "spreads(0..1) = 1 0", "calls(1) = 1", "score(0..2) = 20 4 1", "fewest() = 3", "score(0) = 20", "hand(0, 0..1) = 3 1",
            "bear() = 0", "hand(1, 0..1) = 6 1", "reach() = 2", "loud(0, 0..1) = 8 4", "ill() = 2", "couldRest(0..1) = 2 0", "spreads(0) = 2",
            "move(0, 0..1) = 20 0", "count(0..7) = 2 3 2 20 4 1 0 2");
    }

    @Script.Says("(Nothing is changed.)")
    static void p22_askingChangesNothingOfFourPlayers() {
        Script.run(FOUR, "score(0..2) = 3 12 4", "spreads(0..2) = 9 6 6", "score(0) = 3", "bear() = 0", "score(0) = 3", "fewest() = 15", "score(0) = 3",
            "reach() = 3", "hears(1, 1) = 1", "score(0) = 3", "ill() = 12", "hand(0, 0..3) = 1 1 2 2", "tells(20, 3) = 1", "spreads(0..2) = 5 4 4",
            "score(0..1) = 60 8", "spreads(0) = 5", "bear() = 0", "fewest() = 15");
    }

    public static void main(String[] args) {
        Script.runAll(ScoreTest.class);
    }
}
