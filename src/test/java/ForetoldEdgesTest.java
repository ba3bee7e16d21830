/** Section 3 of the document (what is FORETOLD), promises 16 to 24: each sentence that names an edge. */
public final class ForetoldEdgesTest extends Edges {
    private static final String NOBODY = "w2,3;r1,4,50;";
    private static final String TWO = "w2,3;r0,0,100;s5,0;o2,8;";
    /** At gate 1: 0 at 10, 1 at 50. What 0 does then tells each rule and m from all others. */
    private static final String FAR_APART = "w2,3;r0,0,100;s5,0;o20,8;";
    private static final int[] NO_WHAT = {LEAST, -1, 3, 4, MOST};

    public static void main(String[] args) {
        ForetoldEdgesTest test = new ForetoldEdgesTest();
        test.thereOfWhomAndWhat();
        test.thereAtTheHut();
        test.thereIsFromNowOn();
        test.allThereWithoutWalkers();
        test.allThereIsTheLastOnes();
        test.soonestWhat();
        test.ofSeveralTheLeastRuleThenTheLeastM();
        test.soonestWithTheGreatestM();
        test.soonestIsFromNowOn();
        test.losesOfWhom();
        test.losesCanBeBelow0();
        test.fairWhat();
        test.fairOfSeveral();
        test.fairIsTheGreatestLoss();
        test.sacksOfWhom();
        test.ofSeveralTheFirstRow();
        test.sacksByRule();
        test.sacksOf20();
        test.partiesWhat();
        test.oneOfThePartiesMayBeEmpty();
        test.withoutWalker0();
        test.eachPartyGoesOnItsOwn();
        test.turnWithoutAWay();
        test.backByTheSun();
        test.turnFromThisGateOn();
        test.backWithoutAStop();
        test.theLastGateOfAll();
        test.fitsOfWhomAndWhat();
        test.fitsInTheOrderOfRefusals();
        test.gatesToCome();
        test.placesOfTheRow();
        test.everyRuleByItself();
        test.rules0And3HaveM0Alone();
        test.minutesOfALane();
        test.nothingChanges();
        test.allOfThemAtMost();
        test.aWayBeforeIsForgotten();
        test.check.end();
    }

    // ---- there

    /** "THERE: the MINUTE (what = 0), RESTED (1), TIRED (2). BAD." */
    private void thereOfWhomAndWhat() {
        fresh();
        due("no way", x.there(0, 0), BAD);
        told(NOBODY);
        due("no walkers", x.there(0, 0), BAD);
        told(TWO);
        for (int bad : NO_WHAT) {
            due("there(0, " + bad + ")", x.there(0, bad), BAD);
            due("there(1, " + bad + ")", x.there(1, bad), BAD);
        }
        for (int bad : new int[] {LEAST, -1, 2, 6, MOST}) {
            due("there(" + bad + ", 0)", x.there(bad, 0), BAD);
        }
        dueAll("0", there(0), 29, 4, 3);
        dueAll("1", there(1), 35, 0, 0);
    }

    private int[] there(int walker) {
        return new int[] {x.there(walker, 0), x.there(walker, 1), x.there(walker, 2)};
    }

    private void thereAtTheHut() {
        told(TWO);
        go(2);
        dueAll("0 is there", there(0), 29, 4, 3);
        dueAll("1 is there", there(1), 35, 0, 0);
        due("all are", x.allThere(), 35);
        x.rule(1, 30);
        dueAll("whatever rule comes then", there(0), 29, 4, 3);
        x.give(1, 0);
        dueAll("whatever sack it has then", there(0), 29, 4, 3);
    }

    /** "THERE by RULE from now on to THE HUT". */
    private void thereIsFromNowOn() {
        told("w2,3,1;r0,0,100;o1,0;o6,0;");
        dueAll("from gate 0", there(0), 18 + 27 + 4, 10 + 15, 0);
        x.rule(1, 7);
        dueAll("by another rule", there(0), 18 + 7 + 27 + 7 + 4, 17 + 22, 0);
        x.go();
        x.rule(3, 0);
        dueAll("from gate 1", there(0), 25 + 12 + 4, 17, 0);
        dueAll("the other", there(1), 25 + 27 + 9, 7, 0);
    }

    /** "ALL THERE .. (0: there are no WALKERS)", "STATE: no WAY". */
    private void allThereWithoutWalkers() {
        fresh();
        due("no way", x.allThere(), STATE);
        told(NOBODY);
        for (int gate = 0; gate <= 2; gate++) {
            due("nobody from gate " + gate, x.allThere(), 0);
            x.go();
        }
    }

    private void allThereIsTheLastOnes() {
        told("w1;r0,0,1;s5,0;s9,0;s7,0;");
        due("1 is last", x.allThere(), 9);
        told("w1;r0,0,1;s9,0;s5,0;s7,0;");
        due("0 is last", x.allThere(), 9);
        told("w1;r0,0,1;s5,0;s7,0;s9,0;");
        due("2 is last", x.allThere(), 9);
        told("w1;r0,0,1;s1,0;");
        due("the soonest of all", x.allThere(), 1);
    }

    // ---- soonest, loses, fair

    private int[] soonest() {
        return new int[] {x.soonest(0), x.soonest(1), x.soonest(2)};
    }

    private int[] fair() {
        return new int[] {x.fair(0), x.fair(1), x.fair(2)};
    }

    /** "BAD; STATE: no WAY (ahead of BAD)". */
    private void soonestWhat() {
        fresh();
        dueAll("no way", soonest(), STATE, STATE, STATE);
        for (int bad : NO_WHAT) {
            due("no way, soonest(" + bad + ")", x.soonest(bad), STATE);
        }
        told(NOBODY);
        dueAll("nobody", soonest(), 0, 0, 0);
        for (int bad : NO_WHAT) {
            due("soonest(" + bad + ")", x.soonest(bad), BAD);
        }
    }

    /** "RULE and M by which that is least, of several the least RULE, then the least M". */
    private void ofSeveralTheLeastRuleThenTheLeastM() {
        told("w5;r3,30,1;s5,0;s6,0;");
        dueAll("one leg: all rules are alike", soonest(), 0, 0, 30);
        told("w1,1;r3,30,1;o5,0;o6,0;");
        dueAll("the last one does not wait by rules 0, 2 and 3", soonest(), 0, 0, 18);
        // Tired 8 at 24: a rest of 2 takes a minute off each of 9 miles, by rules 1 and 2, and with m 2 to 9 alike.
        told("w8,9;r3,0,1;s3,0;");
        dueAll("rule 1 ahead of 2, m 2", soonest(), 1, 2, 24 + 2 + 27);
        // 1 comes at 81 and is the slower one then, 0 comes at 90: by rules 2 and 3 alone 1 need not wait.
        told("w9,9;r0,0,1;o7,0;s7,9;");
        dueAll("rule 2 ahead of 3", soonest(), 2, 0, 207);
    }

    /**
     * 1 comes to gate 1 at 40, tired 12, and 20 behind 0: by rule 2 and m 30 it rests 10 there and not at gate 2,
     * is tired 6, goes 80, is tired 30, and goes 104. By m 29 it would rest 9, by rule 1 rest at gate 2, too.
     */
    private void soonestWithTheGreatestM() {
        told("w4,8,8;r1,8,999;s5,0;p9,4;");
        dueAll("rule 2, m 30", soonest(), 2, 30, 50 + 80 + 104);
        x.rule(2, 30);
        due("by that", x.allThere(), 234);
        x.rule(2, 29);
        due("by m 29", x.allThere(), 49 + 88 + 112);
        x.rule(1, 10);
        due("by rule 1, m 10", x.allThere(), 50 + 80 + 10 + 104);
    }

    private void soonestIsFromNowOn() {
        told("w9,9;r0,0,1;o7,0;s7,9;");
        x.go();
        dueAll("they have waited", soonest(), 0, 0, 216);
        x.go();
        dueAll("they are there", soonest(), 0, 0, 216);
        due("the rule stays", x.count(4) + x.count(5), 0);
    }

    /** "LOSES. BAD." */
    private void losesOfWhom() {
        fresh();
        due("no way", x.loses(0), BAD);
        told(NOBODY);
        due("nobody", x.loses(0), BAD);
        told(TWO);
        for (int bad : new int[] {LEAST, -1, 2, 6, MOST}) {
            due("loses(" + bad + ")", x.loses(bad), BAD);
        }
        due("loses(0)", x.loses(0), 4);
        due("the last one loses none", x.loses(1), 0);
        x.rule(3, 30);
        due("by rule 3 nobody loses", x.loses(0), 0);
        x.rule(0, 0);
        go(1);
        due("what is lost is lost by rule 3, too", x.loses(0), 0);
        go(1);
        due("at the hut", x.loses(0), 0);
    }

    /** "by how much later one is THERE by RULE than by RULE 3 (can be below 0)". */
    private void losesCanBeBelow0() {
        String[] rules = {"0,0", "1,1", "1,2", "1,8", "1,9", "1,10", "2,2", "3,2"};
        int[] dues = {0, 1, 2 - 9, 8 - 9, 9 - 9, 10 - 9, 2 - 9, 0};
        for (int i = 0; i < rules.length; i++) {
            told("w8,9;r" + rules[i] + ",1;s3,0;");
            due("by rule " + rules[i], x.loses(0), dues[i]);
        }
    }

    /** "NONE: no WALKERS", "BAD; STATE: no WAY (ahead of BAD)". */
    private void fairWhat() {
        fresh();
        dueAll("no way", fair(), STATE, STATE, STATE);
        for (int bad : NO_WHAT) {
            due("no way, fair(" + bad + ")", x.fair(bad), STATE);
        }
        told(NOBODY);
        dueAll("nobody", fair(), NONE, NONE, NONE);
        for (int bad : NO_WHAT) {
            due("nobody, fair(" + bad + ")", x.fair(bad), BAD);
        }
        told(TWO);
        for (int bad : NO_WHAT) {
            due("fair(" + bad + ")", x.fair(bad), BAD);
        }
    }

    /** "(of several likewise)". */
    private void fairOfSeveral() {
        told("w5;r3,30,1;s5,0;s6,0;");
        dueAll("one leg: all rules are alike", fair(), 0, 0, 0);
        told(TWO);
        dueAll("nobody waits by rules 2, m 0 and 3", fair(), 2, 0, 0);
        told("w1,1;r3,9,1;o5,0;");
        dueAll("a lone one waits for nobody", fair(), 0, 0, 0);
        told("w8,9;r3,0,1;s3,0;");
        dueAll("rule 1 ahead of 2, m 2", fair(), 1, 2, -7);
        go(2);
        dueAll("at the hut", fair(), 0, 0, 0);
    }

    /** "by which the greatest of what all LOSE is least". */
    private void fairIsTheGreatestLoss() {
        // 0 would win 7 by a rest of 2, the old one cannot: what it loses is the greatest.
        told("w8,9;r3,0,1;s3,0;o20,0;");
        dueAll("the old one loses by each rest, 0 by waiting for it", fair(), 2, 0, 0);
        x.rule(2, 2);
        due("0 wins", x.loses(0), -7);
        due("the old one does not rest then", x.loses(1), 0);
        // Alike, and both come at once: both win.
        told("w8,9;r3,0,1;s3,0;s3,0;");
        dueAll("both win 7", fair(), 1, 2, -7);
        told("w8,9;r3,0,1;s3,0;o3,0;");
        dueAll("0 waits for the old one, or wins alone: the old one loses 0", fair(), 2, 0, 0);
    }

    // ---- sacks, parties

    private int[] sacks(int n) {
        int[] all = new int[n + 1];
        for (int i = -1; i < n; i++) {
            all[i + 1] = x.sacks(i);
        }
        return all;
    }

    /** "whose SACK a WALKER has then; ALL THERE then (walker = -1). BAD; STATE: no WAY (ahead of BAD)". */
    private void sacksOfWhom() {
        int[] nobody = {LEAST, -2, 6, 7, MOST};
        fresh();
        for (int bad : nobody) {
            due("no way, sacks(" + bad + ")", x.sacks(bad), STATE);
        }
        due("no way, sacks(-1)", x.sacks(-1), STATE);
        due("no way, sacks(0)", x.sacks(0), STATE);
        told(NOBODY);
        due("nobody, sacks(-1)", x.sacks(-1), 0);
        due("nobody, sacks(0)", x.sacks(0), BAD);
        told("w2;r0,0,1;s3,9;");
        dueAll("a lone one has its own", sacks(1), 10, 0);
        due("no other one", x.sacks(1), BAD);
        told("w2;r0,0,1;s3,9;s3,9;s3,9;s3,9;s3,9;s3,9;");
        for (int bad : nobody) {
            due("sacks(" + bad + ")", x.sacks(bad), BAD);
        }
        dueAll("each its own", sacks(6), 10, 0, 1, 2, 3, 4, 5);
    }

    /** "of several the first (by WALKERS: whose SACK each has)". */
    private void ofSeveralTheFirstRow() {
        told("w2;r0,0,1;o17,0;o1,0;o1,4;o1,8;o1,8;o1,8;");
        dueAll("as it is, though others are as good", sacks(6), 40, 0, 1, 2, 3, 4, 5);
        told("w2;r0,0,1;o17,8;o1,0;o1,0;o1,0;o1,0;o1,0;");
        dueAll("0 has that of 1, 1 that of 0", sacks(6), 40, 1, 0, 2, 3, 4, 5);
        told("w2;r0,0,1;o1,0;o1,0;o1,0;o1,0;o1,0;o17,8;");
        dueAll("the first who can has that of 5", sacks(6), 40, 0, 1, 2, 3, 5, 4);
        told("w2;r0,0,1;o1,0;o1,0;o1,8;o17,8;o17,4;o17,4;");
        dueAll("both of 8 go to 1 and 2, not to 0", sacks(6), 42, 0, 2, 3, 1, 4, 5);
        told("w2;r0,0,1;o17,0;o16,4;o15,8;");
        dueAll("the first row of all", sacks(3), 40, 0, 1, 2);
        told("w2;r0,0,1;o17,8;o16,4;o15,0;");
        dueAll("the last row of all", sacks(3), 40, 2, 1, 0);
        // 429, 433, 442, 428, 432 and 441: each other row has somebody later than 442.
        told("w5,7,9;r3,0,1;s20,9;q20,6;q19,5;q18,4;q17,2;s15,0;");
        dueAll("the last of 720 rows", sacks(6), 442, 5, 4, 3, 2, 1, 0);
    }

    /** ALL THERE "by RULE", of those sacks. */
    private void sacksByRule() {
        String[] rules = {"0,5", "1,5", "2,5", "3,5"};
        int[] dues = {44 + 44, 44 + 5 + 44, 40 + 5 + 44, 44 + 44};
        for (int i = 0; i < rules.length; i++) {
            told("w2,2;r" + rules[i] + ",1;o17,8;o17,0;");
            dueAll("by rule " + rules[i], sacks(2), dues[i], 0, 1);
        }
        told("w2,2;r2,30,1;o17,8;o17,0;");
        x.go();
        dueAll("from gate 1, having left it at 70", sacks(2), 70 + 44, 0, 1);
    }

    /** What was given goes round, too. */
    private void sacksOf20() {
        told("w2;r0,0,1;o17,9;o1,9;o1,2;");
        x.give(1, 0);
        x.give(2, 0);
        due("0 has 20", x.allThere(), 2 * (17 + 5 + 3));
        dueAll("0 has none then, 1 has not the 20 of 0 first", sacks(3), 40, 1, 0, 2);
        due("nothing changes", x.walker(0, 1), 20);
    }

    /** "the set (what = 0), ALL THERE then (1). BAD; STATE: no WAY (ahead of BAD)". */
    private void partiesWhat() {
        int[] no = {LEAST, -1, 2, 3, MOST};
        fresh();
        due("no way", x.parties(0), STATE);
        due("no way", x.parties(1), STATE);
        for (int bad : no) {
            due("no way, parties(" + bad + ")", x.parties(bad), STATE);
        }
        told(NOBODY);
        for (int bad : no) {
            due("parties(" + bad + ")", x.parties(bad), BAD);
        }
    }

    private int[] parties() {
        return new int[] {x.parties(0), x.parties(1)};
    }

    /** "(one may be empty)", "of several the least". */
    private void oneOfThePartiesMayBeEmpty() {
        told(NOBODY);
        dueAll("both are empty", parties(), 0, 0);
        told("w5;r0,0,1;s5,0;");
        dueAll("a lone one", parties(), 0, 25);
        told("w5,1;r3,0,1;o5,0;o5,0;o5,0;o5,0;o5,0;o5,0;");
        dueAll("all 32 are alike", parties(), 0, 48);
        go(2);
        dueAll("at the hut", parties(), 0, 48);
    }

    /** "one set (bits), without WALKER 0, of several the least". */
    private void withoutWalker0() {
        told("w9,9;r0,0,1;s7,9;o7,0;");
        dueAll("0 alone, told by the other", parties(), 2, 207);
        told("w9,9;r0,0,1;o7,0;s7,9;");
        dueAll("1 alone", parties(), 2, 207);
        told("w9,9;r0,0,1;o7,0;o1,0;o1,0;o1,0;o1,0;s7,9;");
        dueAll("5 alone", parties(), 32, 207);
        told("w9,9;r0,0,1;o7,0;s7,9;s7,9;o1,0;o1,0;s7,9;");
        dueAll("1, 2 and 5", parties(), 38, 207);
        // 0 rests 4 by rule 2 and is mended only if nobody came 3 minutes ahead of it: it goes alone.
        told("w6,6;r2,4,999;s15,9;s12,9;s11,1;l4,1;s1,7;p6,1;");
        due("together", x.allThere(), 102 + 126);
        dueAll("all but 0", parties(), 62, 102 + 4 + 120);
    }

    private void eachPartyGoesOnItsOwn() {
        // A proud one ahead of its own party does not tire: alone it goes 18 a mile all the time.
        told("w6,8;r3,0,1;s1,0;p18,3;");
        due("together", x.allThere(), 108 + 160);
        dueAll("alone", parties(), 2, 108 + 144);
        told("w6,8;r3,0,1;p18,3;s1,0;");
        due("together it is ahead on the first leg alone", x.allThere(), 108 + 144);
        told("w6,8,1;r3,0,1;p18,3;s1,0;");
        due("it tires on the second", x.allThere(), 108 + 144 + 20);
        dueAll("alone it does not", parties(), 2, 108 + 144 + 18);
    }

    // ---- turn

    private void dueTurn(String text, int want) {
        told(text);
        due("turn() of " + text, x.turn(), want);
    }

    /** "STATE: no WAY". */
    private void turnWithoutAWay() {
        fresh();
        due("no way", x.turn(), STATE);
        read("w");
        due("a fault is no way", x.turn(), STATE);
        told(NOBODY);
        due("nobody can turn at the hut", x.turn(), 2);
        go(2);
        due("there, too", x.turn(), 2);
    }

    /** "be back at GATE 0 by SUN": in that minute it is still well. */
    private void backByTheSun() {
        dueTurn("w1;r0,0,1;s1,0;", 0);
        dueTurn("w1;r0,0,2;s1,0;", 1);
        dueTurn("w2,1;r3,0,19;o2,0;", 0);
        dueTurn("w2,1;r3,0,20;o2,0;", 1);
        dueTurn("w2,1;r3,0,29;o2,0;", 1);
        dueTurn("w2,1;r3,0,30;o2,0;", 2);
        dueTurn("w2,1;r3,0,31;o2,0;", 2);
        dueTurn("w9,9,9,9,9,9,9,9;r3,0,999;o1,0;", 8);
        dueTurn("w9,9,9,9,9,9,9,9;r3,0,999;o3,0;", 8);
        dueTurn("w9,9,9,9,9,9,9,9;r3,0,999;o4,0;", 7);
        // All must be back: the last one tells.
        dueTurn("w2,1;r3,0,20;o2,0;o3,0;", 0);
        dueTurn("w2,1;r3,0,24;o2,0;o3,0;", 1);
    }

    /** "the last GATE from this one on", "(.. this GATE too); NONE". */
    private void turnFromThisGateOn() {
        told("w2,1;r3,0,29;o2,0;");
        due("gate 1 from gate 0", x.turn(), 1);
        x.go();
        due("this gate", x.turn(), 1);
        x.go();
        due("the hut is too far", x.turn(), NONE);
        told("w2,1;r3,0,30;o2,0;");
        go(2);
        due("this gate is the hut", x.turn(), 2);
        told("w2,1;r3,0,19;o2,0;");
        due("they have not begun", x.turn(), 0);
        x.go();
        due("too late at gate 1", x.turn(), NONE);
        told("w1;r3,0,1;o20,9;");
        due("at gate 0 all are back", x.turn(), 0);
    }

    /** "each goes back the same LEGS without a stop (as it leaves that GATE; at THE HUT, this GATE too)". */
    private void backWithoutAStop() {
        // By rule 1 it rests 30 at gate 1, on the way there alone.
        dueTurn("w2,2;r1,30,49;o2,0;", 0);
        dueTurn("w2,2;r1,30,50;o2,0;", 1);
        dueTurn("w2,2;r1,30,69;o2,0;", 1);
        dueTurn("w2,2;r1,30,70;o2,0;", 2);
        // As tired as it leaves the gate: 8 less 2 by a rest of 2, so 3 a mile; without it 4.
        dueTurn("w8,1;r1,2,49;s3,0;", 0);
        dueTurn("w8,1;r1,2,50;s3,0;", 1);
        dueTurn("w8,1;r3,2,55;s3,0;", 0);
        dueTurn("w8,1;r3,2,56;s3,0;", 1);
        // And it tires on the way back: leg 1 makes it 16 at gate 1.
        dueTurn("w8,8;r3,0,24;s1,0;", 1);
        dueTurn("w8,8;r3,0," + (24 + 24 + 32 - 1) + ";s1,0;", 1);
        dueTurn("w8,8;r3,0,80;s1,0;", 2);
        // Nobody waits for another one on the way back: 0 is back at 612, 1 at 207 + 180 + 234 = 621.
        dueTurn("w9,9;r3,0,621;o14,0;s7,9;", 2);
        dueTurn("w9,9;r3,0,620;o14,0;s7,9;", 1);
        // From this gate it leaves as it does, having rested there.
        told("w2,2;r1,30,49;o2,0;");
        x.go();
        due("too late", x.turn(), NONE);
        told("w2,2;r1,30,50;o2,0;");
        x.go();
        x.rule(3, 0);
        due("having rested here", x.turn(), 1);
    }

    /**
     * "the last GATE": one further on can be well when this one is not. It leaves gate 2 at 27, tired 18, and is back
     * at 27 + 27 + 36 = 90; but having rested 10 at gate 3 it leaves that at 40, tired 13, and is back at
     * 40 + 2 + 18 + 27 = 87, and from the hut at 40 + 2 + 2 + 2 + 27 + 36 = 109.
     */
    private void theLastGateOfAll() {
        for (int sun : new int[] {86, 87, 89, 90, 108, 109}) {
            told("w9,9,1,1;r3,0," + sun + ";s1,0;");
            go(2);
            dueAll("it leaves gate 2", state(0), 18, 27, 0);
            x.rule(1, 10);
            due("by sun " + sun, x.turn(), sun < 87 ? NONE : sun < 109 ? 3 : 4);
        }
        // Without that rest it is back from gate 3 at 30 + 3 + 27 + 36 = 96, from the hut at 33 + 3 + 3 + 27 + 36 = 102.
        int[][] dues = {{89, NONE}, {90, 2}, {95, 2}, {96, 3}, {101, 3}, {102, 4}};
        for (int[] d : dues) {
            told("w9,9,1,1;r3,0," + d[0] + ";s1,0;");
            go(2);
            due("by sun " + d[0] + " and rule 3", x.turn(), d[1]);
        }
    }

    // ---- fits

    /** "BAD: WALKER, ROW, n, what". */
    private void fitsOfWhomAndWhat() {
        told(FAR_APART);
        x.row(0, 2, 8);
        x.row(7, 2, 8);
        for (int bad : new int[] {LEAST, -1, 2, 6, MOST}) {
            due("walker " + bad, x.fits(bad, 0, 0, 1, 0), BAD);
        }
        for (int bad : new int[] {LEAST, -1, 8, 9, MOST}) {
            due("row " + bad, x.fits(0, bad, 0, 1, 0), BAD);
        }
        for (int bad : new int[] {LEAST, -1, 0, 9, 10, MOST}) {
            due("n " + bad, x.fits(0, 0, 0, bad, 0), BAD);
        }
        for (int bad : new int[] {LEAST, -1, 2, 3, MOST}) {
            due("what " + bad, x.fits(0, 0, 0, 1, bad), BAD);
        }
        due("how many", x.fits(0, 7, 0, 1, 0), 0);
        due("the first of none", x.fits(0, 7, 0, 1, 1), NONE);
    }

    /** BAD, STATE, NULL, PLACE. */
    private void fitsInTheOrderOfRefusals() {
        fresh();
        due("no way: no such walker", x.fits(0, 0, 0, 1, 0), BAD);
        told(FAR_APART);
        due("BAD ahead of STATE", x.fits(2, 0, 0, 3, 0), BAD);
        due("BAD ahead of STATE", x.fits(0, 0, 0, 3, 2), BAD);
        due("BAD ahead of NULL", x.fits(0, 0, 0, 9, 0), BAD);
        due("STATE ahead of NULL", x.fits(0, 0, 0, 3, 0), STATE);
        due("status() of these", x.status(), 0);
        due("NULL ahead of PLACE", x.fits(0, 0, -1, 1, 0), NULL);
        due("status()", x.status(), 1);
        x.row(0, 2, 1);
        x.set(3, 0, 0);
        due("STATE ahead of PLACE", x.fits(0, 0, -1, 3, 0), STATE);
        due("status() stays", x.status(), 1);
        due("PLACE", x.fits(0, 0, 0, 2, 0), PLACE);
        due("status()", x.status(), 2);
        due("none fits", x.fits(0, 0, 0, 1, 1), NONE);
        due("that is no finding", x.status(), 0);
    }

    /** "n MINUTES (1 to 8)", "STATE: there are not so many GATES to come". */
    private void gatesToCome() {
        told("w1,1,1,1,1,1,1,1;r3,0,1;o1,0;");
        x.row(0, 1, 40);
        for (int i = 0; i < 8; i++) {
            x.set(0, 32 + i, 4 * (i + 1));
        }
        for (int gate = 0; gate < 8; gate++) {
            int left = 8 - gate;
            for (int n = 1; n <= left; n++) {
                int fitting = n == 1 ? 64 : 4;
                due(n + " from gate " + gate, x.fits(0, 0, 32 + gate, n, 0), fitting);
            }
            for (int n = left + 1; n <= 8; n++) {
                due(n + " from gate " + gate, x.fits(0, 0, 0, n, 0), STATE);
            }
            x.go();
        }
        for (int n = 1; n <= 8; n++) {
            due(n + " from the hut", x.fits(0, 0, 0, n, 0), STATE);
        }
    }

    /** "NULL; PLACE": from i on, n items. */
    private void placesOfTheRow() {
        told(FAR_APART);
        due("a missing row", x.fits(0, 0, 0, 1, 0), NULL);
        x.row(0, 2, 0);
        due("a row without items", x.fits(0, 0, 0, 1, 0), PLACE);
        x.row(0, 2, 3);
        due("the last two", x.fits(0, 0, 1, 2, 0), 0);
        due("the last one", x.fits(0, 0, 2, 1, 0), 0);
        for (int bad : new int[] {LEAST, LEAST + 1, -2, -1, 2, 3, 4, MOST - 1, MOST}) {
            due("two from " + bad, x.fits(0, 0, bad, 2, 0), PLACE);
            due("status()", x.status(), 2);
        }
        x.row(1, 0, 40);
        due("the last two of 40", x.fits(0, 1, 38, 2, 0), 0);
        due("one beyond 40", x.fits(0, 1, 39, 2, 0), PLACE);
        due("none of 40", x.fits(0, 1, 40, 1, 0), PLACE);
    }

    private void dueFits(int minute, int howMany, int first) {
        x.set(0, 1, minute);
        due("how many for " + minute, x.fits(0, 0, 0, 2, 0), howMany);
        due("the first for " + minute, x.fits(0, 0, 0, 2, 1), first);
    }

    /** "how many; the first (31 times RULE, and M); NONE". */
    private void everyRuleByItself() {
        told(FAR_APART);
        x.row(0, 2, 2);
        x.set(0, 0, 10);
        dueFits(24, 0, NONE);
        dueFits(25, 2, 62);
        for (int m = 1; m <= 30; m++) {
            dueFits(25 + m, 1, 62 + m);
        }
        dueFits(56, 0, NONE);
        dueFits(64, 0, NONE);
        dueFits(65, 2, 0);
        for (int m = 1; m <= 30; m++) {
            dueFits(65 + m, 1, 31 + m);
        }
        dueFits(96, 0, NONE);
        x.set(0, 0, 11);
        dueFits(65, 0, NONE);
        x.set(0, 0, 9);
        dueFits(65, 0, NONE);
    }

    /** "RULES and M (RULE 3 with M 0 alone, RULE 0 likewise)": 1 and 31 and 31 and 1. */
    private void rules0And3HaveM0Alone() {
        for (int rule = 0; rule <= 3; rule++) {
            for (int m : new int[] {0, 30}) {
                told("w2;r" + rule + "," + m + ",100;s5,0;");
                x.row(0, 2, 1);
                x.set(0, 0, 10);
                due("all rules fit", x.fits(0, 0, 0, 1, 0), 64);
                due("the first", x.fits(0, 0, 0, 1, 1), 0);
            }
        }
    }

    /** A minute that a lane cannot hold fits no more. */
    private void minutesOfALane() {
        told("w9,9;r3,0,1;o11,0;");
        for (int lane = 0; lane <= 2; lane++) {
            x.row(lane, lane, 2);
            x.set(lane, 0, 126);
            x.set(lane, 1, 252);
            due("126 of lane " + lane, x.fits(0, lane, 0, 1, 0), 64);
            due("252 of lane " + lane, x.fits(0, lane, 0, 2, 0), lane == 0 ? 0 : 4);
        }
        told("w8;r3,0,1;o13,0;");
        x.row(0, 0, 1);
        x.set(0, 0, 128);
        due("a byte of 128 is -128", x.fits(0, 0, 0, 1, 0), 0);
        x.row(0, 1, 1);
        x.set(0, 0, 65536 + 128);
        due("a short of 65664 is 128", x.fits(0, 0, 0, 1, 0), 64);
        x.row(0, 2, 1);
        x.set(0, 0, 65536 + 128);
        due("an int of 65664 is not", x.fits(0, 0, 0, 1, 0), 0);
    }

    /** All that can be foretold of a way with two walkers or more, the row 0 being there. */
    private int[] allForetold() {
        return new int[] {x.there(0, 0), x.there(1, 1), x.there(1, 2), x.allThere(), x.soonest(0), x.soonest(1),
            x.soonest(2), x.loses(0), x.loses(1), x.fair(0), x.fair(1), x.fair(2), x.sacks(-1), x.sacks(0), x.sacks(1),
            x.parties(0), x.parties(1), x.turn(), x.fits(0, 0, 0, 2, 0), x.fits(0, 0, 0, 1, 1)};
    }

    private void foretell(int which) {
        switch (which) {
            case 0: x.there(0, 0); break;
            case 1: x.allThere(); break;
            case 2: x.soonest(0); break;
            case 3: x.loses(1); break;
            case 4: x.fair(0); break;
            case 5: x.sacks(-1); break;
            case 6: x.parties(0); break;
            case 7: x.turn(); break;
            default: x.fits(1, 0, 0, 2, 0); break;
        }
    }

    /** "FORETOLD (nothing changes)", and whatever was foretold is foretold again. */
    private void nothingChanges() {
        told("w4,8,8;r1,8,700;s5,2;p9,4;");
        x.go();
        x.give(0, 1);
        x.row(0, 2, 2);
        x.set(0, 0, 88);
        int[] before = allForetold();
        for (int which = 0; which <= 8; which++) {
            foretell(which);
            dueAll("0", walker(0), 5, 0, 4, 48, 28, 40);
            dueAll("1", walker(1), 9, 6, 10, 48, 8, 88);
            dueAll("counts", new int[] {x.count(3), x.count(4), x.count(5), x.count(6), x.count(7)}, 1, 1, 8, 700, 2);
            int[] again = allForetold();
            for (int i = 0; i < before.length; i++) {
                due("behind " + which + " it is foretold again: " + i, again[i], before[i]);
            }
        }
        due("undo()", x.undo(), 1);
        due("the sack", x.walker(0, 1), 2);
    }

    /** Eight legs and six walkers, the longest that anybody can need. */
    private void allOfThemAtMost() {
        told("w1,1,1,1,1,1,1,1;r1,1,94;o2,0;o2,0;o2,0;o2,0;o2,0;o2,0;");
        x.row(0, 0, 8);
        for (int i = 0; i < 8; i++) {
            x.set(0, i, 6 * i + 5);
        }
        for (int i = 0; i < 6; i++) {
            dueAll("there of " + i, there(i), 47, 7, 0);
            due("loses of " + i, x.loses(i), 7);
            due("fits of " + i, x.fits(i, 0, 0, 8, 0), 2);
            due("the first of " + i, x.fits(i, 0, 0, 8, 1), 32);
        }
        due("all there", x.allThere(), 47);
        dueAll("soonest", soonest(), 0, 0, 40);
        dueAll("fair", fair(), 0, 0, 0);
        dueAll("sacks", sacks(6), 47, 0, 1, 2, 3, 4, 5);
        dueAll("parties", parties(), 0, 47);
        due("turn, back at 87", x.turn(), 8);
        go(8);
        due("all are there", x.allThere(), 47);
        dueAll("the last", walker(5), 2, 0, 0, 47, 7, NONE);
        told("w9,9,9,9,9,9,9,9;r1,30,999;l20,9;l20,9;l20,9;l20,9;l20,9;l20,9;");
        due("the slowest of all", x.allThere(), slowest());
        dueAll("sacks of the slowest", sacks(6), slowest(), 0, 1, 2, 3, 4, 5);
        due("turn of the slowest", x.turn(), 1);
    }

    /** Each leg tires it by 9 * (1 + 4 + 1), each gate but the hut mends 4 in 30 minutes. */
    private static int slowest() {
        int minute = 0;
        for (int leg = 0; leg < 8; leg++) {
            minute += 9 * (20 + (leg * (54 - 4) + 18) / 8 + 3) + (leg < 7 ? 30 : 0);
        }
        return minute;
    }

    /** Longer legs and later walkers of a way before tell nothing of this one. */
    private void aWayBeforeIsForgotten() {
        String[] ways = {"w4,8;r0,8,70;s5,2;p9,4;", "w4,8;r1,8,70;s5,2;p9,4;l1,1;", "w4,8,1;r2,8,70;s5,2;p9,4;"};
        for (String way : ways) {
            told(way);
            x.row(0, 2, 2);
            int[] alone = allForetold();
            go(1);
            int[] then = allForetold();
            told("w9,9,9,9,9,9,9,9;r1,30,999;l20,9;l20,9;l20,9;l20,9;l20,9;l20,9;");
            x.row(0, 2, 2);
            allForetold();
            go(8);
            allForetold();
            due("another way", read(way) > 0 ? 1 : 0, 1);
            dueAll("foretold behind another way", allForetold(), alone);
            go(1);
            dueAll("and from gate 1", allForetold(), then);
        }
    }
}
