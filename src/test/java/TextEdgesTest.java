/** Section 1 of the document on TEXTS and FAULTS, and promises 1 and 6 to 8: each sentence that names an edge. */
public final class TextEdgesTest extends Edges {
    private static final String RULE = "w1;r0,0,1;";
    private static final String SIX = RULE + "s1,0;q1,0;p1,0;o1,0;l1,0;s1,0;";
    /** As long as a text can be that has no fault. */
    private static final String LONGEST = "w001,002,003,004,005,006,007,009;r003,030,999;"
            + "s020,009;q020,009;p020,009;o020,009;l020,009;s020,009;";

    public static void main(String[] args) {
        TextEdgesTest test = new TextEdgesTest();
        test.aNewObjectHasNoWay();
        test.bytesGoFrom0To255();
        test.theTapeHas120Bytes();
        test.badComesAheadOfFull();
        test.theTapeIsEmptyThen();
        test.anEmptyTape();
        test.everyByteAtEveryPlace();
        test.theEndAtEveryPlace();
        test.lettersStandByThemselves();
        test.numbersHaveThreeFiguresAtMost();
        test.thereAre1To8Legs();
        test.milesAre1To9();
        test.rulesAre0To3();
        test.mIs0To30();
        test.sunIs1To999();
        test.pacesAre1To20();
        test.sacksAre0To9();
        test.thereAre0To6Walkers();
        test.sortsAreFive();
        test.theFirstTokenThatHasAFault();
        test.ofOneTokenTheLeastFault();
        test.theLongestText();
        test.aWayStandsInPlaceOfTheOneBefore();
        test.walkersOfAWayBeforeAreGone();
        test.noActCanBeUndone();
        test.withAFaultAllStays();
        test.theLatestFaultIsTold();
        test.check.end();
    }

    private void dueFault(String text, int number, int place) {
        fresh();
        due("the place in '" + text + "'", read(text), FAULT_AT - place);
        due("the fault of '" + text + "'", x.fault(), number);
        due("no way by '" + text + "'", x.count(1) + x.count(2), 0);
        due("an empty tape behind '" + text + "'", x.count(8), 0);
    }

    private void dueRead(String text, int legs, int walkers) {
        fresh();
        due("the walkers of '" + text + "'", read(text), walkers);
        due("the legs of '" + text + "'", x.count(1), legs);
        due("no fault of '" + text + "'", x.fault(), 0);
    }

    /** "No WAY." */
    private void aNewObjectHasNoWay() {
        fresh();
        for (int what = 0; what <= 8; what++) {
            due("count(" + what + ") at first", x.count(what), 0);
        }
        int[] states = {x.go(), x.rule(0, 0), x.undo(), x.allThere(), x.soonest(0), x.fair(0), x.sacks(-1),
            x.parties(0), x.turn(), x.image(0), x.image(1), x.restore(0), x.restore(1)};
        for (int i = 0; i < states.length; i++) {
            due("no way: STATE " + i, states[i], STATE);
        }
        int[] bads = {x.give(0, 1), x.walker(0, 0), x.leg(0), x.there(0, 0), x.loses(0), x.fits(0, 0, 0, 1, 0),
            x.kind(0), x.as(0, 0), x.ask(0, 0)};
        for (int i = 0; i < bads.length; i++) {
            due("no way: BAD " + i, bads[i], BAD);
        }
        due("trace(0) at first", x.trace(0), NONE);
        due("fault() at first", x.fault(), 0);
        due("status() at first", x.status(), 0);
        due("mends(2) wants no way", x.mends(2), 2);
    }

    /** "A byte (0 to 255) comes behind the tape", "BAD". */
    private void bytesGoFrom0To255() {
        fresh();
        for (int bad : new int[] {LEAST, -256, -1, 256, 257, 65536 + 119, MOST}) {
            due("feed(" + bad + ")", x.feed(bad), BAD);
        }
        due("nothing came", x.count(8), 0);
        due("feed(0)", x.feed(0), 1);
        due("feed(1)", x.feed(1), 2);
        due("feed(127)", x.feed(127), 3);
        due("feed(128)", x.feed(128), 4);
        due("feed(254)", x.feed(254), 5);
        due("feed(255)", x.feed(255), 6);
        due("count(8)", x.count(8), 6);
    }

    /** "THE TAPE has at most 120 bytes, that come one by one", "FULL". */
    private void theTapeHas120Bytes() {
        fresh();
        for (int i = 1; i <= 120; i++) {
            due("count(8) ahead of byte " + i, x.count(8), i - 1);
            due("byte " + i, x.feed('w'), i);
        }
        due("byte 121", x.feed('w'), FULL);
        due("byte 121 again", x.feed(0), FULL);
        due("count(8)", x.count(8), 120);
        due("way()", x.way(), FAULT_AT - 1);
        due("the tape has room again", x.feed('w'), 1);
        fresh();
        feed(LONGEST);
        for (int i = LONGEST.length(); i < 120; i++) {
            x.feed('s');
        }
        x.feed(';');
        due("what was FULL left the tape as it was", x.way(), FAULT_AT - 100);
        due("fault()", x.fault(), 3);
    }

    private void badComesAheadOfFull() {
        fresh();
        for (int i = 0; i < 120; i++) {
            x.feed(255);
        }
        due("feed(256) of a full tape", x.feed(256), BAD);
        due("feed(-1) of a full tape", x.feed(-1), BAD);
        due("feed(255) of a full tape", x.feed(255), FULL);
    }

    /** "The tape, empty then, is read", with a FAULT or without one. */
    private void theTapeIsEmptyThen() {
        fresh();
        due("read", read(RULE), 0);
        due("count(8)", x.count(8), 0);
        due("an empty tape has no way", x.way(), FAULT_AT);
        due("read in two parts", x.feed('w'), 1);
        due("with a fault", x.way(), FAULT_AT - 1);
        due("count(8) then", x.count(8), 0);
        due("what was read is gone", read("1;r0,0,1;"), FAULT_AT);
    }

    private void anEmptyTape() {
        dueFault("", 1, 0);
    }

    /**
     * "TOKENS: letters a to z, NUMBERS, SIGNS , and ; nothing else, no blanks": behind a beginning that has no
     * fault each of 256 bytes comes as the last. Those of going can stand there: the fault is at the end then.
     * Those of wrong make a NUMBER that is not as told, which begins at from. All others cannot stand there.
     */
    private void everyByteAtEveryPlace() {
        lastBytes("", "w", "", 0);
        lastBytes("w", "123456789", "0", 1);
        lastBytes("w1", ",;", "0123456789", 1);
        lastBytes("w1,", "123456789", "0", 3);
        lastBytes("w1;", "r", "", 3);
        lastBytes("w1;r", "0123", "456789", 4);
        lastBytes("w1;r0", ",0123", "456789", 4);
        lastBytes("w1;r0,", "0123456789", "", 6);
        lastBytes("w1;r0,3", ",0", "123456789", 6);
        lastBytes("w1;r0,2", ",0123456789", "", 6);
        lastBytes("w1;r0,0,", "123456789", "0", 8);
        lastBytes("w1;r0,0,9", "0123456789", "", 8);
        lastBytes("w1;r0,0,99", "0123456789", "", 8);
        lastBytes("w1;r0,0,1;", "sqpol", "", 10);
        lastBytes(RULE + "s", "123456789", "0", 11);
        lastBytes(RULE + "s2", ",0", "123456789", 11);
        lastBytes(RULE + "s1", ",0123456789", "", 11);
        lastBytes(RULE + "s1,", "0123456789", "", 13);
        lastBytes(RULE + "s1,1", "", "0123456789", 13);
        lastBytes(RULE + "s1,0;", "sqpol", "", 15);
        lastBytes(RULE + "s1,0;q1,0;", "sqpol", "", 20);
    }

    private void lastBytes(String beginning, String going, String wrong, int from) {
        for (int letter = 0; letter < 256; letter++) {
            String text = beginning + (char) letter;
            if (isWhole(text)) {
                dueRead(text, 1, text.equals(RULE + "s1,1;") ? 1 : 0);
            } else if (going.indexOf(letter) >= 0) {
                dueFault(text, 1, text.length());
            } else if (wrong.indexOf(letter) >= 0) {
                dueFault(text, 2, from);
            } else {
                dueFault(text, 1, beginning.length());
            }
        }
    }

    private static boolean isWhole(String text) {
        return text.equals("w1;r0,0,9;") || text.equals("w1;r0,0,99;") || text.equals(RULE + "s1,1;");
    }

    /** "1 it cannot stand there, or is none (the end: how many bytes there are)". */
    private void theEndAtEveryPlace() {
        everyBeginning("w1,2;r0,30,999;s20,9;q1,0;");
        everyBeginning("w9,9,9,9,9,9,9,9;r3,3,1;s1,1;q1,1;p1,1;o1,1;l1,1;s1,1;");
        dueFault("w1;r0,0,100", 1, 11);
        dueFault(RULE + "s020", 1, 14);
    }

    /** Legs and rule each end in a ; and so does each walker behind them. */
    private void everyBeginning(String text) {
        int ended = 0;
        for (int length = 0; length <= text.length(); length++) {
            String part = text.substring(0, length);
            ended += part.endsWith(";") ? 1 : 0;
            if (ended >= 2 && part.endsWith(";")) {
                dueRead(part, (text.indexOf(';')) / 2, ended - 2);
            } else {
                dueFault(part, 1, length);
            }
        }
    }

    /** "letters a to z (each by itself)". */
    private void lettersStandByThemselves() {
        dueFault("ww", 1, 1);
        dueFault("wr", 1, 1);
        dueFault("w1;rr", 1, 4);
        dueFault("w1;rs", 1, 4);
        dueFault(RULE + "sq1,0;", 1, 11);
        dueFault(RULE + "ss1,0;", 1, 11);
        dueFault(RULE + "s1,0;;", 1, 15);
        dueFault(RULE + "S1,0;", 1, 10);
        dueFault("W1;", 1, 0);
        dueFault("w1;R0,0,1;", 1, 3);
        dueFault(RULE + " ", 1, 10);
        dueFault(RULE + "\n", 1, 10);
        dueFault(RULE + "s1,0; ", 1, 15);
        dueFault(RULE + "s 1,0;", 1, 11);
    }

    /** "NUMBERS (figures, 3 at most)". */
    private void numbersHaveThreeFiguresAtMost() {
        dueRead("w001;r000,000,001;s001,000;", 1, 1);
        dueRead("w009;r003,030,999;s020,009;", 1, 1);
        dueRead("w01;r00,00,01;s01,00;", 1, 1);
        dueFault("w0001;", 1, 1);
        dueFault("w1,0001;", 1, 3);
        dueFault("w1;r0000,0,1;", 1, 4);
        dueFault("w1;r0,0000,1;", 1, 6);
        dueFault("w1;r0,0,0001;", 1, 8);
        dueFault("w1;r0,0,1000;", 1, 8);
        dueFault(RULE + "s0001,0;", 1, 11);
        dueFault(RULE + "s1,0000;", 1, 13);
        dueFault("w999;", 2, 1);
        dueFault("w1;r999,0,1;", 2, 4);
        dueFault("w1;r0,999,1;", 2, 6);
        dueFault(RULE + "s999,0;", 2, 11);
        dueFault(RULE + "s1,999;", 2, 13);
        // So many figures that their number would wrap around to one that is as told.
        dueFault("w4294967297;", 1, 1);
        dueFault("w1;r4294967296,0,1;", 1, 4);
        dueFault("w" + "9".repeat(119), 1, 1);
    }

    /** "w and 1 to 8 NUMBERS, parted by , then ;", "3 a ninth LEG (its first byte)". */
    private void thereAre1To8Legs() {
        StringBuilder legs = new StringBuilder("w");
        dueFault("w;r0,0,1;", 1, 1);
        for (int n = 1; n <= 8; n++) {
            legs.append(n == 1 ? "" : ",").append(n);
            dueRead(legs + ";r0,0,1;", n, 0);
            for (int leg = 0; leg < n; leg++) {
                due("leg(" + leg + ") of " + n, x.leg(leg), leg + 1);
            }
            due("leg(" + n + ") of " + n, x.leg(n), BAD);
            dueFault(legs + ",;r0,0,1;", 1, 2 * n + 1);
            dueFault(legs + ",,1;r0,0,1;", 1, 2 * n + 1);
        }
        dueFault(legs + ",9;r0,0,1;", 3, 17);
        dueFault(legs + ",9", 3, 17);
        dueFault(legs + ",009;", 3, 17);
        dueFault(legs + ",1,1,1,1;", 3, 17);
        dueFault(legs + ",", 1, 17);
        dueFault(legs + ",r", 1, 17);
        dueFault(legs.toString(), 1, 16);
    }

    /** "(MILES, 1 to 9 each)", whichever leg it is. */
    private void milesAre1To9() {
        for (int leg = 0; leg < 8; leg++) {
            String before = "w" + "5,".repeat(leg), behind = ",5".repeat(7 - leg) + ";r0,0,1;";
            dueRead(before + "1" + behind, 8, 0);
            due("1 mile", x.leg(leg), 1);
            dueRead(before + "9" + behind, 8, 0);
            due("9 miles", x.leg(leg), 9);
            dueFault(before + "0" + behind, 2, 1 + 2 * leg);
            dueFault(before + "10" + behind, 2, 1 + 2 * leg);
            dueFault(before + "000" + behind, 2, 1 + 2 * leg);
        }
    }

    private void rulesAre0To3() {
        for (int rule = 0; rule <= 3; rule++) {
            dueRead("w1;r" + rule + ",7,1;", 1, 0);
            due("the rule", x.count(4), rule);
        }
        dueFault("w1;r4,7,1;", 2, 4);
        dueFault("w1;r004,7,1;", 2, 4);
        dueFault("w1;r10,7,1;", 2, 4);
        dueFault("w1;r;", 1, 4);
        dueFault("w1;r,7,1;", 1, 4);
    }

    private void mIs0To30() {
        for (int m = 0; m <= 30; m++) {
            dueRead("w1;r1," + m + ",1;", 1, 0);
            due("m", x.count(5), m);
        }
        dueFault("w1;r1,31,1;", 2, 6);
        dueFault("w1;r1,031,1;", 2, 6);
        dueFault("w1;r1,99,1;", 2, 6);
        dueFault("w1;r1,,1;", 1, 6);
        dueFault("w1;r1;", 1, 5);
    }

    private void sunIs1To999() {
        for (int sun : new int[] {1, 2, 9, 10, 99, 100, 998, 999}) {
            dueRead("w1;r1,1," + sun + ";", 1, 0);
            due("the sun", x.count(6), sun);
        }
        dueFault("w1;r1,1,0;", 2, 8);
        dueFault("w1;r1,1,000;", 2, 8);
        dueFault("w1;r1,1,1000;", 1, 8);
        dueFault("w1;r1,1,;", 1, 8);
        dueFault("w1;r1,1;", 1, 7);
        dueFault("w1;r1,1,5,", 1, 9);
    }

    private void pacesAre1To20() {
        for (char sort : "sqpol".toCharArray()) {
            for (int pace : new int[] {1, 2, 19, 20}) {
                dueRead(RULE + sort + pace + ",5;", 1, 1);
                due("the pace", x.walker(0, 0), pace);
            }
            dueFault(RULE + sort + "0,5;", 2, 11);
            dueFault(RULE + sort + "21,5;", 2, 11);
            dueFault(RULE + sort + ",5;", 1, 11);
            dueFault(RULE + sort + ";", 1, 11);
        }
    }

    private void sacksAre0To9() {
        for (char sort : "sqpol".toCharArray()) {
            for (int sack : new int[] {0, 1, 8, 9}) {
                dueRead(RULE + sort + "5," + sack + ";", 1, 1);
                due("the sack", x.walker(0, 1), sack);
            }
            dueFault(RULE + sort + "5,10;", 2, 13);
            dueFault(RULE + sort + "5,;", 1, 13);
            dueFault(RULE + sort + "5;", 1, 12);
            dueFault(RULE + sort + "5,5,", 1, 14);
        }
    }

    /** "WALKERS 0 .. 5, 6 at most", "3 a walker more than there is room for (its first byte)". */
    private void thereAre0To6Walkers() {
        for (int n = 0; n <= 6; n++) {
            dueRead(SIX.substring(0, 10 + 5 * n), 1, n);
            due("count(2)", x.count(2), n);
            due("walker(" + n + ", 0)", x.walker(n, 0), BAD);
            if (n > 0) {
                due("walker(" + (n - 1) + ", 0)", x.walker(n - 1, 0), 1);
            }
        }
        for (char sort : "sqpol".toCharArray()) {
            dueFault(SIX + sort, 3, 40);
            dueFault(SIX + sort + "1,0;", 3, 40);
            dueFault(SIX + sort + "0,99", 3, 40);
            dueFault(SIX + sort + sort, 3, 40);
        }
        for (char other : "wr;,09a ".toCharArray()) {
            dueFault(SIX + other, 1, 40);
        }
    }

    /** "SORT: s a steady one, q a quick one, p a proud one, o an old one, l a lame one". */
    private void sortsAreFive() {
        String sorts = "sqpol";
        for (char letter = 'a'; letter <= 'z'; letter++) {
            int kind = sorts.indexOf(letter) + 1;
            if (kind > 0) {
                dueRead(RULE + letter + "1,0;", 1, 1);
                due("the kind of " + letter, x.kind(0), kind);
            } else {
                dueFault(RULE + letter + "1,0;", 1, 10);
            }
        }
    }

    /** "the first TOKEN that has one (its first byte)", whatever comes behind it. */
    private void theFirstTokenThatHasAFault() {
        dueFault("w0;r4,31,0;x", 2, 1);
        dueFault("w1,99,0;r4", 2, 3);
        dueFault("w1;r4,31,0;", 2, 4);
        dueFault("w1;r3,31,0;", 2, 6);
        dueFault("w1;r3,30,0;", 2, 8 + 1);
        dueFault("w1,2,3,4,5,6,7,0,9;", 2, 15);
        dueFault("w1,2,3,4,5,6,7,8,9,0;x", 3, 17);
        dueFault(RULE + "s0,10;", 2, 11);
        dueFault(RULE + "s1,10;s0", 2, 13);
        dueFault(RULE + "s1,0;x0,10;", 1, 15);
        dueFault("x" + RULE, 1, 0);
        dueFault("w1?r4", 1, 2);
    }

    /** "of one TOKEN the least": 1 ahead of 2 ahead of 3. */
    private void ofOneTokenTheLeastFault() {
        String legs = "w1,2,3,4,5,6,7,8,";
        dueFault(legs + "0;", 2, 17);
        dueFault(legs + "10;", 2, 17);
        dueFault(legs + "999;", 2, 17);
        dueFault(legs + "9;", 3, 17);
        dueFault(legs + "1;", 3, 17);
        dueFault(legs + "0009;", 1, 17);
        dueFault(legs + ",", 1, 17);
        // A number where none can stand is no number that is not as told.
        dueFault("0", 1, 0);
        dueFault("w1;0", 1, 3);
        dueFault(RULE + "0", 1, 10);
        dueFault(RULE + "99", 1, 10);
        dueFault(SIX + "0", 1, 40);
        dueFault(SIX + "w", 1, 40);
    }

    private void theLongestText() {
        due("its length", LONGEST.length(), 100);
        dueRead(LONGEST, 8, 6);
        due("the last leg", x.leg(7), 9);
        dueAll("the last walker", walker(5), 20, 9, 0, 0, 0, 22);
        due("rule, m, sun", x.count(4) * 100000 + x.count(5) * 1000 + x.count(6), 330999);
        dueFault(LONGEST + "s", 3, 100);
        dueFault(LONGEST + ",".repeat(20), 1, 100);
    }

    /** "all are at GATE 0, leave it at MINUTE 0, are not TIRED, have RESTED 0". */
    private void aWayStandsInPlaceOfTheOneBefore() {
        told("w9,9,9;r1,30,999;s9,9;l9,9;q9,9;p9,9;o9,9;s9,9;");
        go(3);
        x.rule(2, 7);
        due("another one", read("w1,2;r3,4,5;o6,7;p8,9;"), 2);
        int[] counts = {0, 2, 2, 0, 3, 4, 5, 0, 0};
        for (int what = 0; what < counts.length; what++) {
            due("count(" + what + ") then", x.count(what), counts[what]);
        }
        dueAll("walker 0", walker(0), 6, 7, 0, 0, 0, 10);
        dueAll("walker 1", walker(1), 8, 9, 0, 0, 0, 10);
        dueAll("kinds", new int[] {x.kind(0), x.kind(1), x.kind(2)}, 4, 3, BAD);
        dueAll("legs", new int[] {x.leg(0), x.leg(1), x.leg(2)}, 1, 2, BAD);
        due("one without walkers", read(RULE), 0);
        due("count(2)", x.count(2), 0);
        due("walker(0, 0)", x.walker(0, 0), BAD);
        due("the gate", x.count(3), 0);
    }

    /** Those who were tired in a way before are not seen again, when others come in their places. */
    private void walkersOfAWayBeforeAreGone() {
        told("w9,9;r1,30,999;l9,9;l9,9;l9,9;l9,9;l9,9;l9,9;");
        go(2);
        due("a lone one", read("w1,1;r1,2,1;o1,0;"), 1);
        go(1);
        dueAll("it waits for nobody else", state(0), 0, 4 + 2, 2);
        go(1);
        dueAll("nor at the hut", state(0), 0, 6 + 4, 2);
        due("six again", read("w1;r0,0,1;s1,1;s1,1;s1,1;s1,1;s1,1;s1,1;"), 6);
        for (int i = 0; i < 6; i++) {
            dueAll("walker " + i, walker(i), 1, 1, 0, 0, 0, 1);
            due("its kind", x.kind(i), 1);
        }
    }

    /** "no ACT can be undone". */
    private void noActCanBeUndone() {
        told(RULE + "s1,1;s2,2;");
        x.rule(1, 1);
        x.give(0, 1);
        x.go();
        due("three acts", x.count(7), 3);
        read(RULE + "s3,3;");
        due("none then", x.count(7), 0);
        due("undo()", x.undo(), STATE);
        due("the way is the new one", x.walker(0, 0), 3);
        x.rule(1, 1);
        due("its own act can be", x.undo(), 0);
        due("and no other", x.undo(), STATE);
    }

    /** "-1000100 less the place of a FAULT: all stays". */
    private void withAFaultAllStays() {
        String[] faulty = {"", "w", "w5,6,7;", "w5,6,7;r3,30,99;l9,9;l", "w5;r3,30,0;", "w1,2,3,4,5,6,7,8,9;",
            "w5;r2,2,2;l9,9;l9,9;l9,9;l9,9;l9,9;l9,9;l9,9;", "w5;r2,2,2;l9,10;"};
        for (String text : faulty) {
            told("w2,3;r1,4,100;s5,0;o2,8;");
            x.image(0);
            x.go();
            x.give(1, 0);
            x.row(2, 1, 3);
            x.set(0, 0, 0);
            x.ask(0, 1);
            due("a fault of '" + text + "'", read(text) <= FAULT_AT ? 1 : 0, 1);
            int[] counts = {1, 2, 2, 1, 1, 4, 100, 2, 0};
            for (int what = 0; what < counts.length; what++) {
                due("count(" + what + ") stays behind '" + text + "'", x.count(what), counts[what]);
            }
            dueAll("walker 0 stays", walker(0), 5, 8, 0, 18, 8, 21);
            dueAll("walker 1 stays", walker(1), 2, 0, 0, 18, 4, 15);
            dueAll("legs and kinds", new int[] {x.leg(0), x.leg(1), x.kind(0), x.kind(1)}, 2, 3, 1, 4);
            dueAll("trace", new int[] {x.trace(0), x.trace(1), x.trace(2)}, 21, 20, NONE);
            due("status()", x.status(), 1);
            due("undo()", x.undo(), 1);
            due("the sack is back", x.walker(1, 1), 8);
            due("undo()", x.undo(), 0);
            due("gate 0", x.count(3), 0);
            due("the image", x.restore(0), 1);
            due("the row", x.drop(2), 3);
        }
    }

    /** "The number of the latest FAULT; 0 before one." */
    private void theLatestFaultIsTold() {
        fresh();
        due("before one", x.fault(), 0);
        read(RULE);
        due("a text without one", x.fault(), 0);
        read("w0");
        due("2", x.fault(), 2);
        due("2 still", x.fault(), 2);
        read("w1,2,3,4,5,6,7,8,9");
        due("3", x.fault(), 3);
        read(SIX);
        due("the latest is 3 still", x.fault(), 3);
        x.way();
        due("1", x.fault(), 1);
        x.feed(256);
        x.go();
        due("1 still", x.fault(), 1);
    }
}
