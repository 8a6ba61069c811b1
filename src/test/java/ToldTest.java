/** What is told: promises 1 to 7 and the text's part of Terms, sentence by sentence. */
public final class ToldTest {
    private static final String SOME = "r 0 60 4;b 0 60 5 3;n 10;n 12 14;q 3 8;";

    private static String blanks(int many) {
        return " ".repeat(many);
    }

    /** A text with a fault, told to an object that has something of everything: that all stays is seen by Script. */
    private static void fault(String text, int place) {
        Script.run("tell '" + SOME + "' = 5", "calls(1) = 0", "keep(1) = 2", "hears(0, 1) = 1",
            "tell '" + text + "' = " + (-10 - place), "count(6) = " + text.length(), "count(0..5) = 2 1 2 3 8 1",
            "band() = " + (-10 - place), "clear() = " + text.length());
    }

    private static void items(String text, int many) {
        Script.run("tell '" + text + "' = " + many, "count(6) = 0");
    }

    // ---- promise 1

    @Script.Says("No PLAYERS")
    static void p01_aNewObjectHasNoPlayers() {
        Script.run("count(0..1) = 0", "player({MIN,-1,0,1,MAX}, 0..4) = BAD", "span({MIN,-1,0,MAX}) = BAD",
            "calls({MIN,-1,0,1,MAX}) = BAD");
    }

    @Script.Says("no CHORDS")
    static void p01_aNewObjectHasNoChords() {
        Script.run("count(2) = 0", "chord({-1,0,1}, {-1,0}) = BAD", "takes({-1,0}) = BAD", "spreads(0) = BAD",
            "could(0, 0, 0) = BAD", "hand(0, 0) = BAD", "loud(0, 0) = BAD", "couldRest(0) = BAD", "move(0, 0) = BAD",
            "hears(0, {0,1}) = BAD", "puts(1, 5, -1, -1) = BAD", "puts(0, 5, -1, -1) = 1");
    }

    @Script.Says("REST (0 .. 20; 5 at first); BALANCE (0 .. 30; 9 at first)")
    static void p01_restIs5AndBalance9AtFirst() {
        Script.run("count(3) = 5", "count(4) = 9", "tells(5, 9) = STATE");
    }

    @Script.Says("(No CHORDS: COST 0.)")
    static void p01_aNewObjectHasAScoreOfNoCost() {
        Script.run("score(0..2) = 0", "reach() = 0", "fewest() = 0", "bear() = 0", "ill() = 0");
    }

    @Script.Says("No PLAYERS, no CHORDS.")
    static void p01_aNewObjectHasNothingElse() {
        Script.run("count(5..7) = 0", "undo() = STATE", "back(0..1) = STATE", "forget() = 0", "clear() = 0", "band() = 0");
    }

    @Script.Says("No PLAYERS, no CHORDS.")
    static void p01_objectsAreApart() {
        ChordSpreads one = new ChordSpreads();
        ChordSpreads other = new ChordSpreads();
        one.puts(0, 1, 2, 3);
        one.type('n');
        one.keep(0);
        one.tells(1, 2);
        int[] want = {0, 0, 0, 5, 9, 0, 0, 0};
        for (int what = 0; what < 8; what++) Script.due("count(" + what + ") of another", other.count(what), want[what]);
        Script.due("back(0) of another", other.back(0), -2);
        Script.due("count(2) of a third", new ChordSpreads().count(2), 0);
    }

    // ---- promise 2

    @Script.Says("A letter (0 .. 255) comes to THE TEXT: how many it has.")
    static void p02_everyLetterOf0To255Comes() {
        for (int first = 0; first < 256; first += 128) {
            Script.Player x = new Script.Player();
            for (int i = 0; i < 128; i++) Script.due("type(" + (first + i) + ")", x.play("type", first + i), i + 1);
        }
        Script.run("type({0,255}) = 1 2", "count(6) = 2");
    }

    @Script.Says("A letter (0 .. 255) comes to THE TEXT")
    static void p02_letterBelow0IsBad() {
        Script.run("type({MIN,-256,-224,-1}) = BAD", "count(6) = 0", "text 'n1'", "type(-197) = BAD", "type(59) = 3", "band() = 1");
    }

    @Script.Says("A letter (0 .. 255) comes to THE TEXT")
    static void p02_letterAbove255IsBad() {
        Script.run("type({256,257,288,65536,MAX}) = BAD", "count(6) = 0", "text 'n1'", "type(315) = BAD", "type(59) = 3", "band() = 1");
    }

    @Script.Says("FULL: 150")
    static void p02_the150thLetterComesThe151stIsFull() {
        Script.run("text '" + blanks(149) + "'", "count(6) = 149", "type(32) = 150", "count(6) = 150",
            "type({0,32,110,255}) = FULL", "count(6) = 150");
    }

    @Script.Says("Refused, and nothing changes, the first of these: BAD")
    static void p02_badIsAheadOfFull() {
        Script.run("text '" + blanks(150) + "'", "type({MIN,-1,256,MAX}) = BAD", "type(32) = FULL");
    }

    @Script.Says("FULL: 150")
    static void p02_thereIsRoomAgainBehindClear() {
        Script.run("text '" + blanks(150) + "'", "type(32) = FULL", "clear() = 150", "type(32) = 1");
    }

    @Script.Says("FULL: 150")
    static void p02_thereIsRoomAgainBehindBandButNotBehindAFault() {
        Script.run("tell '" + blanks(150) + "' = 0", "type(32) = 1");
        Script.run("tell 'x" + blanks(149) + "' = -10", "type(32) = FULL");
    }

    // ---- promise 3

    @Script.Says("THE TEXT is empty: how many letters it had.")
    static void p03_clearOfNoLetters() {
        Script.run("clear() = 0", "clear() = 0", "count(6) = 0");
    }

    @Script.Says("THE TEXT is empty: how many letters it had.")
    static void p03_clearOfOneAndOf150Letters() {
        Script.run("type(255) = 1", "clear() = 1", "clear() = 0", "text '" + blanks(150) + "'", "clear() = 150",
            "clear() = 0", "count(6) = 0");
    }

    @Script.Says("THE TEXT is empty")
    static void p03_whatWasClearedIsNotReadAnyMore() {
        Script.run("text 'n1;x'", "clear() = 4", "tell 'n2;' = 1", "count(2) = 1", "chord(0, 0) = 2", "band() = 0");
    }

    @Script.Says("THE TEXT is empty")
    static void p03_clearLeavesAllElse() {
        Script.run("tell '" + SOME + "' = 5", "calls(0) = 0", "keep(0) = 2", "hears(1, 1) = 1", "text 'n1'", "clear() = 2",
            "count(0..7) = 2 2 2 3 8 1 0 1", "undo() = 0", "back(0) = 2", "count(1) = 2");
    }

    // ---- promise 4: what is no fault

    @Script.Says("No ITEMS are no FAULT.")
    static void p04_noItemsAreNoFault() {
        items("", 0);
        items(" ", 0);
        items(blanks(150), 0);
    }

    @Script.Says("THE TEXT tells all anew, and is empty then: how many ITEMS.")
    static void p04_everyItemCounts() {
        items("n1;", 1);
        items("q1 1;", 1);
        items("r0 1 2;b0 1 2 3;g0 1 2;n1;n1 2;n1 2 3;q1 1;", 7);
        items("r0 1 2;g0 1 2;b0 1 2 3;b0 1 2 3;n1;n1;n1;n1;n1;n1;n1;n1;q1 1;", 13);
    }

    @Script.Says("(where no figures meet there need be no blanks)")
    static void p04_blanksBetweenTokens() {
        items("r1 2 3;n4 5;q6 7;", 3);
        items(" r 1 2 3 ; n 4 5 ; q 6 7 ; ", 3);
        items("  r   1  2   3  ;  n   4  5   ;q  6   7  ;   ", 3);
        Script.run("tell 'n12;n1 2;' = 2", "chord(0, -1..1) = 1 12 NONE", "chord(1, -1..1) = 2 1 2");
    }

    @Script.Says("They are a text (150 letters at most)")
    static void p04_aTextOf150LettersIsRead() {
        items("n1;" + blanks(147), 1);
        items(blanks(147) + "n1;", 1);
        Script.run("tell 'n1;" + blanks(142) + "n60 ;' = 2", "chord(1, 0) = 60");
    }

    @Script.Says("q REST BALANCE (once at most)")
    static void p04_qMayStandAnywhere() {
        for (String text : new String[] {"q1 2;r0 1 2;n1;", "r0 1 2;q1 2;n1;", "r0 1 2;n1;q1 2;"}) {
            Script.run("tell '" + text + "' = 3", "count(0..4) = 1 1 1 1 2");
        }
    }

    @Script.Says("r LOW HIGH WEIGHT (the next PLAYER, a REED)")
    static void p04_playersAndChordsComeInTheirOrder() {
        Script.run("tell 'n9;g1 2 3;n8;b4 5 6 7;r8 9 2;n7;' = 6", "player(0..2, 0) = 2 1 0", "player(0..2, 1) = 1 4 8",
            "player(0..2, 2) = 2 5 9", "player(0..2, 3) = 3 6 2", "span(1) = 7", "chord(0..2, 0) = 9 8 7");
    }

    @Script.Says({"told letter by letter, blanks (32) between TOKENS", "NUMBERS (rows of figures)"})
    static void p04_onlyLetter32IsABlank() {
        items("n 1 2;", 1);
        for (char letter : new char[] {0, 9, 10, 11, 12, 13, 31, 33, 95, 160, 255}) {
            fault("n" + letter + "1;", 1);
            fault("n 1" + letter + "2;", 3);
            fault("n 1;" + letter, 4);
        }
    }

    @Script.Says("ITEMS, each ended by ;")
    static void p04_everyItemIsEndedByItsSemicolon() {
        fault("r 1 2 3", 7);
        fault("r 1 2 3 n 1;", 8);
        fault("n 1 n 2;", 4);
        fault("n 1 2 3 n 2;", 8);
        fault("q 1 2 r 1 2 3;", 6);
        fault("b 1 2 3 4 g 1 2 3;", 10);
    }

    @Script.Says({"b LOW HIGH WEIGHT SPAN (a BOW)", "g LOW HIGH WEIGHT (a BELL)", "r LOW HIGH WEIGHT"})
    static void p04_aBowHasOneNumberMoreThanTheOthers() {
        items("r 1 2 3;b 1 2 3 4;g 1 2 3;", 3);
        fault("r 1 2 3 4;", 8);
        fault("g 1 2 3 4;", 8);
        fault("b 1 2 3;", 7);
        fault("b 1 2 3 4 5;", 10);
        fault("q 1;", 3);
        fault("q 1 2 3;", 6);
    }

    @Script.Says("All PLAYERS are IN at first.")
    static void p04_allPlayersAreInAtFirst() {
        String[] all = {"r0 1 2;", "b0 1 2 3;", "g0 1 2;", "r0 1 2;"};
        String text = "";
        for (int many = 1; many <= 4; many++) {
            text += all[many - 1];
            Script.run("tell '" + text + "' = " + many, "count(0) = " + many, "count(1) = " + ((1 << many) - 1), "player(0.." + (many - 1) + ", 4) = 1");
        }
    }

    // ---- promise 4: bounds of numbers

    @Script.Says({"a RANGE LOW to HIGH (0 .. 60, HIGH no less than LOW)", "a NUMBER beyond what it may be, too"})
    static void p04_lowAndHighAre0To60() {
        for (String kind : new String[] {"r", "b", "g"}) {
            String more = kind.equals("b") ? " 5 1;" : " 5;";
            Script.run("tell '" + kind + " 0 0" + more + "' = 1", "player(0, 1..2) = 0");
            Script.run("tell '" + kind + " 60 60" + more + "' = 1", "player(0, 1..2) = 60");
            Script.run("tell '" + kind + " 0 60" + more + "' = 1", "player(0, 1..2) = 0 60");
            fault(kind + " 61 61" + more, 2);
            fault(kind + " 61 60" + more, 2);
            fault(kind + " 0 61" + more, 4);
            fault(kind + " 60 61" + more, 5);
            fault(kind + " 0 99" + more, 4);
        }
    }

    @Script.Says("HIGH no less than LOW")
    static void p04_highIsNoLessThanLow() {
        for (String kind : new String[] {"r", "b", "g"}) {
            String more = kind.equals("b") ? " 5 1;" : " 5;";
            items(kind + " 30 30" + more, 1);
            items(kind + " 30 31" + more, 1);
            fault(kind + " 30 29" + more, 5);
            fault(kind + " 1 0" + more, 4);
        }
    }

    @Script.Says("a WEIGHT (2 .. 9)")
    static void p04_weightIs2To9() {
        for (String kind : new String[] {"r", "b", "g"}) {
            String more = kind.equals("b") ? " 1;" : ";";
            Script.run("tell '" + kind + " 0 1 2" + more + "' = 1", "player(0, 3) = 2");
            Script.run("tell '" + kind + " 0 1 9" + more + "' = 1", "player(0, 3) = 9");
            fault(kind + " 0 1 1" + more, 6);
            fault(kind + " 0 1 0" + more, 6);
            fault(kind + " 0 1 10" + more, 6);
        }
    }

    @Script.Says("at most its SPAN (0 .. 12) above the lower")
    static void p04_spanIs0To12() {
        Script.run("tell 'b 0 1 2 0;b 0 1 2 12;' = 2", "span(0..1) = 0 12");
        fault("b 0 1 2 13;", 8);
        fault("b 0 1 2 99;", 8);
    }

    @Script.Says("each of 1 to 3 notes (0 .. 60), rising")
    static void p04_notesAre0To60() {
        Script.run("tell 'n 0;n 60;n 0 60;n 58 59 60;' = 4", "chord(0..1, 0) = 0 60", "chord(3, 0..2) = 58 59 60");
        fault("n 61;", 2);
        fault("n 60 61;", 5);
        fault("n 59 60 61;", 8);
        fault("n 99;", 2);
    }

    @Script.Says("REST (0 .. 20; 5 at first)")
    static void p04_restIs0To20() {
        Script.run("tell 'q 0 1;' = 1", "count(3..4) = 0 1");
        Script.run("tell 'q 20 1;' = 1", "count(3..4) = 20 1");
        fault("q 21 1;", 2);
        fault("q 99 1;", 2);
    }

    @Script.Says("BALANCE (0 .. 30; 9 at first)")
    static void p04_balanceIs0To30() {
        Script.run("tell 'q 1 0;' = 1", "count(3..4) = 1 0");
        Script.run("tell 'q 1 30;' = 1", "count(3..4) = 1 30");
        fault("q 1 31;", 4);
        fault("q 1 99;", 4);
    }

    // ---- promise 4: how many there may be

    @Script.Says({"(4 at most)", "a fifth PLAYER's letter"})
    static void p04_fourPlayersAtMost() {
        for (String kind : new String[] {"r0 1 2;", "g0 1 2;"}) {
            Script.run("tell '" + kind.repeat(4) + "' = 4", "count(0..1) = 4 15");
            for (String fifth : new String[] {"r", "b", "g", "r 0 1 2;", "b 0 1 2 3;", "g 0 1 2;", "r 99", "r x"}) {
                fault(kind.repeat(4) + fifth, 28);
            }
            fault(kind.repeat(4) + "n1; g", 32);
        }
    }

    @Script.Says({"1 a BOW (2 at most)", "a third b"})
    static void p04_twoBowsAtMost() {
        Script.run("tell 'b0 1 2 3;b0 1 2 3;r0 1 2;g0 1 2;' = 4", "player(0..3, 0) = 1 1 0 2");
        fault("b0 1 2 3;b0 1 2 3;b0 1 2 3;", 18);
        fault("b0 1 2 3;r0 1 2;b0 1 2 3; b", 26);
        fault("b0 1 2 3;b0 1 2 3;b99", 18);
        // bows of a text that went ahead don't count
        Script.run("tell 'b0 1 2 3;b0 1 2 3;' = 2", "tell 'b0 1 2 3;b0 1 2 4;' = 2", "count(0) = 2", "tell 'b0 1 2 3;b0 1 2 4;b' = -28",
            "clear() = 19", "tell 'b0 1 2 3;' = 1");
    }

    @Script.Says({"CHORDS 0, 1, .. (8 at most)", "a ninth n"})
    static void p04_eightChordsAtMost() {
        Script.run("tell '" + "n1;".repeat(8) + "' = 8", "count(2) = 8");
        Script.run("tell '" + "n1 2 3;".repeat(8) + "' = 8", "count(2) = 8", "chord(7, 2) = 3");
        for (String ninth : new String[] {"n", "n1;", "n 99;", "n x"}) fault("n1;".repeat(8) + ninth, 24);
        fault("n1;".repeat(8) + "q1 1; n", 30);
    }

    @Script.Says("q told again")
    static void p04_qOnceAtMost() {
        fault("q1 1;q", 5);
        fault("q1 1;q1 1;", 5);
        fault("q1 1;n1; q2 2;", 9);
        // told again by another text it is told once
        Script.run("tell 'q1 1;' = 1", "tell 'q2 2;' = 1", "count(3..4) = 2");
    }

    @Script.Says("a note that is no higher than the one ahead of it")
    static void p04_notesRise() {
        items("n 0 1 2;", 1);
        fault("n 5 5;", 4);
        fault("n 5 4;", 4);
        fault("n 0 0;", 4);
        fault("n 60 60;", 5);
        fault("n 5 6 6;", 6);
        fault("n 5 7 6;", 6);
        fault("n 5 7 5;", 6);
        fault("n 5 7 0;", 6);
    }

    @Script.Says("a fourth note")
    static void p04_threeNotesAtMost() {
        Script.run("tell 'n 1;n 1 2;n 1 2 3;' = 3", "chord(0..2, -1) = 1 2 3");
        fault("n 1 2 3 4;", 8);
        fault("n 1 2 3 4", 8);
        fault("n 1 2 3 3;", 8);
        fault("n 1 2 3 100;", 8);
    }

    @Script.Says("n and 1 to 3 notes (the next CHORD)")
    static void p04_oneNoteAtLeast() {
        fault("n;", 1);
        fault("n ;", 2);
        fault("n1;n;", 4);
    }

    // ---- promise 4: where a fault lies

    @Script.Says("a NUMBER above 99 or with a 0 ahead of others, that TOKEN's")
    static void p04_numbersAbove99AreFaults() {
        fault("n 100;", 2);
        fault("n 999;", 2);
        fault("n 1 100;", 4);
        fault("q 100 1;", 2);
        fault("n 2147483648;", 2);
        fault("n 4294967297;", 2);
        fault("n 18446744073709551617;", 2);
        fault("n " + "1".repeat(148), 2);
    }

    @Script.Says("with a 0 ahead of others")
    static void p04_aZeroAheadOfOthersIsAFault() {
        items("n 0;", 1);
        items("n 10 20 30;", 1);
        items("q 0 0;", 1);
        fault("n 00;", 2);
        fault("n 01;", 2);
        fault("n 09 10;", 2);
        fault("n 010;", 2);
        fault("n 000000000000001;", 2);
        fault("r 0 05 5;", 4);
        fault("r 0 5 05;", 6);
        fault("b 0 5 5 01;", 8);
        fault("q 05 1;", 2);
        fault("q 5 01;", 4);
    }

    @Script.Says("of any other letter")
    static void p04_anyOtherLetterIsAFault() {
        String known = "rbgnq; 0123456789";
        for (int letter = 0; letter < 256; letter++) {
            if (known.indexOf(letter) >= 0) continue;
            for (int place : new int[] {0, 1, 2, 3}) {
                Script.Player x = new Script.Player();
                String text = "n1;".substring(0, place) + (char) letter + "n1;".substring(place);
                for (char c : text.toCharArray()) x.play("type", c);
                Script.due("band() with letter " + letter + " at " + place, x.play("band"), -10 - place);
                Script.due("count(6)", x.play("count", 6), 4);
            }
        }
        fault("R 0 1 2;", 0);
        fault("n 1\t2;", 3);
        fault("n -1;", 2);
        fault("n 1,2;", 3);
        fault("n 1\n;", 3);
    }

    @Script.Says("the place of the first letter of the first TOKEN that can't stand there")
    static void p04_noOtherTokenCanStandThere() {
        String[][] items = {{"r", "1", "2", "3", ";"}, {"b", "1", "2", "3", "4", ";"}, {"g", "1", "2", "3", ";"}, {"q", "1", "2", ";"}};
        for (String[] item : items) {
            String ahead = "n 7 ; ";
            for (int i = 0; i < item.length; i++) {
                boolean number = Character.isDigit(item[i].charAt(0));
                String wrong = i == 0 ? "; 5" : number ? "r b g n q ; x 100 03" : "r b g n q x 5 100 03";
                for (String token : wrong.split(" ")) fault(ahead + token + " ;", ahead.length());
                ahead += item[i] + " ";
            }
        }
        for (String ahead : new String[] {"n ", "n 1 ", "n 1 2 ", "n 1 2 3 "}) {
            for (String token : "r b g n q x 100 03".split(" ")) fault(ahead + token + " ;", ahead.length());
        }
        fault(";", 0);
        fault("n1;;", 3);
        fault("n1; ;", 4);
        fault("5;", 0);
    }

    @Script.Says("the first TOKEN that can't stand there")
    static void p04_theFirstOfSeveralFaultsIsTold() {
        fault("n 5 4; x", 4);
        fault("n 100 x", 2);
        fault("x n 5 4;", 0);
        fault("r 5 4 1;", 4);
        fault("r 5 6 1; 01", 6);
        fault("n 1 2 3 4 ; n 61;", 8);
    }

    @Script.Says("the text's length, if it ends too early")
    static void p04_aTextThatEndsTooEarly() {
        String text = "r 1 2 3;b 1 2 3 4;g 1 2 3;n 1 2 3;q 1 2;";
        int items = 0;
        for (int length = 1; length <= text.length(); length++) {
            String part = text.substring(0, length);
            if (part.endsWith(";")) {
                items++;
                items(part, items);
            } else {
                fault(part, length);
                fault(part + "  ", length + 2);
            }
        }
    }

    @Script.Says("the text's length, if it ends too early")
    static void p04_faultsAtTheEndOfAFullText() {
        fault("n1" + blanks(118), 120);
        Script.run("tell 'n1" + blanks(148) + "' = -160", "count(6) = 150");
        Script.run("tell '" + blanks(149) + "n' = -160", "count(6) = 150");
        Script.run("tell '" + blanks(149) + "x' = -159", "count(6) = 150");
        Script.run("tell '" + blanks(149) + ";' = -159", "count(6) = 150");
        Script.run("tell 'n" + blanks(148) + "9' = -160", "count(6) = 150");
    }

    @Script.Says("-10 less FAULT: nothing changes.")
    static void p04_atAFaultNothingChanges() {
        Script.run("tell '" + SOME + "' = 5", "calls(1) = 0", "puts(2, 1, 2, 3) = 3", "keep(0) = 3", "takes(0) = 2",
            "hears(1, 0) = 1", "score(0) = NONE", "tell 'r 1 2 3;g 1 1 9;n 5;q 7 7;n 4 4;' = -40", "count(0..7) = 2 1 2 3 8 1 32 3",
            "player(0, 0..4) = 0 0 60 4 1", "player(1, 0..4) = 1 0 60 5 0", "span(1) = 3", "chord(0, -1..2) = 2 12 14 NONE",
            "chord(1, 0..2) = 1 2 3", "ill() = 1", "undo() = 2", "back(0) = 3", "back(1) = STATE", "band() = -40");
    }

    // ---- promise 4: read anew

    @Script.Says("(Read anew: as told, all IN; nothing HEARD, IMAGES are gone, nothing can be UNDONE.)")
    static void p04_readAnewAllAreIn() {
        Script.run("tell 'r0 1 2;r0 1 2;' = 2", "calls(0..1) = 0", "tell 'r0 1 2;r0 1 2;r0 1 2;r0 1 2;' = 4", "count(1) = 15",
            "player(0..3, 4) = 1", "calls(3) = 0", "tell 'r0 1 2;' = 1", "count(0..1) = 1", "player(1, 4) = BAD");
    }

    @Script.Says("Read anew: as told")
    static void p04_readAnewNothingOfTheOldIsLeft() {
        Script.run("tell '" + SOME + "' = 5", "tells(1, 2) = 1", "tell 'g 4 5 6;n 7;' = 2", "count(0..4) = 1 1 1 5 9",
            "player(0, 0..4) = 2 4 5 6 1", "player(1, 0) = BAD", "span({0,1}) = BAD", "chord(0, -1..2) = 1 7 NONE NONE",
            "chord(1, -1) = BAD", "tell 'q 2 3;' = 1", "count(0..4) = 0 0 0 2 3", "band() = 0", "count(0..4) = 0 0 0 5 9");
    }

    @Script.Says("nothing HEARD")
    static void p04_readAnewNothingIsHeard() {
        Script.run("tell 'r 0 60 4;n 1;' = 2", "hears(0, {1,1,1,1,1,1}) = 1 2 3 4 5 6", "ill() = 0", "tell 'r 0 60 4;n 1;' = 2",
            "count(5) = 0", "ill() = 1", "forget() = 0", "hears(0, 0) = 1", "ill() = 1");
    }

    @Script.Says("IMAGES are gone")
    static void p04_readAnewImagesAreGone() {
        Script.run("tell 'n 1;' = 1", "keep(0..1) = 1", "tell 'n 2;' = 1", "back(0..1) = STATE", "keep(1) = 1", "back(0) = STATE",
            "back(1) = 1", "chord(0, 0) = 2");
    }

    @Script.Says("nothing can be UNDONE")
    static void p04_readAnewNothingCanBeUndone() {
        Script.run("tell 'n 1;' = 1", "takes(0) = 0", "count(7) = 1", "tell 'n 2;' = 1", "count(7) = 0", "undo() = STATE",
            "tells(1, 1) = 1", "undo() = 0", "undo() = STATE", "chord(0, 0) = 2");
    }

    @Script.Says("THE TEXT tells all anew, and is empty then")
    static void p04_theTextIsEmptyBehindBand() {
        Script.run("tell 'n 1;' = 1", "count(6) = 0", "clear() = 0", "tell 'n 2;n 3;' = 2", "count(2) = 2", "band() = 0", "count(2) = 0");
    }

    @Script.Says("Read anew: as told")
    static void p04_readAnewTheScoreIsAnother() {
        Script.run("tell 'r 0 60 4;n 1;n 5;' = 3", "score(0) = 4", "tell 'r 0 60 4;n 1;n 9;' = 3", "score(0) = 8",
            "tell 'n 1;' = 1", "score(0) = NONE", "band() = 0", "score(0) = 0");
    }

    // ---- promise 5

    @Script.Says("0 KIND, 1 LOW, 2 HIGH, 3 WEIGHT, 4 whether it is IN (1, 0)")
    static void p05_playerAnswersEachOfFive() {
        Script.run("tell 'r 1 2 3;b 4 50 6 7;g 60 60 9;b 0 0 2 12;' = 4", "player(0, 0..4) = 0 1 2 3 1", "player(1, 0..4) = 1 4 50 6 1",
            "player(2, 0..4) = 2 60 60 9 1", "player(3, 0..4) = 1 0 0 2 1");
    }

    @Script.Says("Of a PLAYER: 0 KIND")
    static void p05_noSuchThingOfAPlayerIsBad() {
        Script.run("tell 'r 1 2 3;b 4 50 6 7;' = 2", "player(0..1, {MIN,-9,-1,5,6,MAX}) = BAD");
    }

    @Script.Says("BAD (a number is not as told, or there is no such thing)")
    static void p05_noSuchPlayerIsBad() {
        Script.run("tell 'r 1 2 3;' = 1", "player({MIN,-1,1,2,3,4,MAX}, 0..4) = BAD", "player({-1,1}, {-1,5}) = BAD");
        Script.run("tell 'r 1 2 3;r 1 2 3;r 1 2 3;g 1 2 9;' = 4", "player(3, 3) = 9", "player({MIN,-1,4,5,32,MAX}, 0..4) = BAD");
    }

    @Script.Says("4 whether it is IN (1, 0)")
    static void p05_whoIsOutIsStillToldOf() {
        Script.run("tell 'r 1 2 3;b 4 50 6 7;g 5 6 9;' = 3", "calls(1) = 0", "player(0..2, 4) = 1 0 1", "player(1, 0..3) = 1 4 50 6",
            "calls(1) = 1", "player(0..2, 4) = 1");
    }

    // ---- promise 6

    @Script.Says("SPAN of a PLAYER.")
    static void p06_spanOfABowInAndOut() {
        Script.run("tell 'b 1 2 3 0;r 1 2 3;b 1 2 3 12;' = 3", "span({0,2}) = 0 12", "calls({0,2}) = 0", "span({0,2}) = 0 12");
    }

    @Script.Says("BAD (one that is no BOW, too)")
    static void p06_spanOfNoBowIsBad() {
        Script.run("tell 'r 1 2 3;g 1 2 3;b 1 2 3 4;' = 3", "span(0..2) = BAD BAD 4");
        // the places were bows' ahead of it
        Script.run("tell 'b 1 2 3 4;b 1 2 3 5;' = 2", "tell 'r 1 2 3;g 1 2 3;' = 2", "span(0..1) = BAD");
    }

    @Script.Says("SPAN of a PLAYER. BAD")
    static void p06_noSuchPlayerIsBad() {
        Script.run("tell 'b 1 2 3 4;' = 1", "span({MIN,-1,1,2,3,4,MAX}) = BAD");
        Script.run("tell 'r 1 2 3;r 1 2 3;b 1 2 3 4;b 1 2 3 4;' = 4", "span(3) = 4", "span({MIN,-1,4,5,MAX}) = BAD");
    }

    // ---- promise 7

    @Script.Says("Of a CHORD: how many notes (i = -1), the i-th (0 on); NONE.")
    static void p07_notesOfChordsOfOneTwoAndThree() {
        Script.run("tell 'n 7;n 0 60;n 1 2 3;' = 3", "chord(0, -1..3) = 1 7 NONE NONE NONE", "chord(1, -1..3) = 2 0 60 NONE NONE",
            "chord(2, -1..3) = 3 1 2 3 NONE");
    }

    @Script.Says("NONE")
    static void p07_aNoteOfAnyHigherNumberIsNone() {
        Script.run("tell 'n 7;n 1 2 3;n 8;' = 3", "chord(0..2, {3,4,5,8,100,1000000,MAX}) = NONE");
    }

    @Script.Says("BAD (i below -1)")
    static void p07_belowMinus1IsBad() {
        Script.run("tell 'n 7;n 1 2 3;' = 2", "chord(0..1, {-2,-3,-1000000,MIN}) = BAD");
    }

    @Script.Says("BAD (i below -1)")
    static void p07_noSuchChordIsBad() {
        Script.run("tell 'n 7;n 1 2 3;' = 2", "chord({MIN,-1,2,3,8,MAX}, {-2,-1,0,1,3,MAX}) = BAD");
        Script.run("tell '" + "n7;".repeat(8) + "' = 8", "chord(7, 0) = 7", "chord({8,9,MAX}, {-1,0}) = BAD");
    }

    public static void main(String[] args) {
        Script.runAll(ToldTest.class);
    }
}
