/** Section 2 of the document (LEGS, WALKERS, RULES, RESTS, ACTS), promises 9 to 15: each sentence that names an edge. */
public final class WalkEdgesTest extends Edges {
    /** Old ones do not tire: they come to gate 1 at 10, 14 and 20. */
    private static final String THREE = "o2,0;o4,0;o7,0;";

    public static void main(String[] args) {
        WalkEdgesTest test = new WalkEdgesTest();
        test.theLastGateIsTheHut();
        test.noLegIsLeftAtTheHut();
        test.whatOneMileTakesIsCut();
        test.tiredAndSackAreCutTogether();
        test.aQuickOneTakes1AtLeast();
        test.anOldAndALameOneTake3More();
        test.minutesAreTimesMiles();
        test.tiredAsItLeaves();
        test.halfASackIsCut();
        test.anOldOneDoesNotTire();
        test.aProudOneAhead();
        test.ofSeveralTheLeastNumberIsAhead();
        test.allLeaveByRule();
        test.ofTheFirstAndOfTheLast();
        test.aLoneOneByRules();
        test.everyRestMends();
        test.mends0To999();
        test.aRestLongerThanThat();
        test.tiredIs0AtLeast();
        test.nobodyRestsAtTheHut();
        test.goWithoutAWay();
        test.goWithoutWalkers();
        test.ruleAndMInTheirBounds();
        test.ruleSaysHowTheyWere();
        test.aSackIsGiven();
        test.twentyAtMost();
        test.nobodyGivesToItself();
        test.nothingIsUndone();
        test.atMost24ActsAreKept();
        test.theOldestIsForgotten();
        test.theLatestIsUndoneFirst();
        test.actsGoRoundAndRound();
        test.whatIsRefusedIsNoAct();
        test.actsAtTheHut();
        test.upToTheLastOf512Calls();
        test.whatOfAWalker();
        test.legsInTheirBounds();
        test.check.end();
    }

    // ---- legs and walkers

    /** "LEG k (0 on) goes from GATE k to GATE k and 1; the last GATE is THE HUT." */
    private void theLastGateIsTheHut() {
        for (int legs = 1; legs <= 8; legs++) {
            told("w1" + ",1".repeat(legs - 1) + ";r1,1,999;o1,0;");
            due("legs", x.count(1), legs);
            for (int gate = 1; gate < legs; gate++) {
                due("gate " + gate + " of " + legs, x.go(), gate);
                dueAll("there it rests", state(0), 0, 5 * gate, gate);
            }
            due("the hut of " + legs, x.go(), legs);
            dueAll("there it does not", state(0), 0, 5 * legs - 1, legs - 1);
            due("no way further", x.go(), STATE);
            due("the gate stays", x.count(3), legs);
        }
    }

    /** "STATE: they are at THE HUT", "(NONE at THE HUT)". */
    private void noLegIsLeftAtTheHut() {
        told("w3,2;r0,0,1;s2,0;");
        due("ahead of leg 0", x.walker(0, 5), 6);
        x.go();
        due("ahead of leg 1", x.walker(0, 5), 4);
        x.go();
        due("at the hut", x.walker(0, 5), NONE);
        due("go()", x.go(), STATE);
        due("go() again", x.go(), STATE);
        due("acts", x.count(7), 2);
        x.undo();
        due("ahead of leg 1 again", x.walker(0, 5), 4);
    }

    private int minutes(String text) {
        told(text);
        return x.walker(0, 5);
    }

    /** "PACE, and (TIRED, and twice SACK) by 8 (cut)". */
    private void whatOneMileTakesIsCut() {
        int[] dues = {3, 3, 3, 3, 4, 4, 4, 4, 5, 5};
        for (int sack = 0; sack <= 9; sack++) {
            due("a mile with sack " + sack, minutes("w1;r0,0,1;s3," + sack + ";"), dues[sack]);
        }
        int[][] given = {{9, 2, 5}, {9, 3, 6}, {9, 6, 6}, {9, 7, 7}};
        for (int[] g : given) {
            told("w1;r0,0,1;s3," + g[0] + ";s3," + g[1] + ";");
            x.give(1, 0);
            due("a mile with sack " + (g[0] + g[1]), x.walker(0, 5), g[2]);
        }
        told("w1;r0,0,1;s3,9;s3,9;s3,1;s3,1;");
        x.give(1, 0);
        x.give(2, 0);
        due("a mile with sack 19", x.walker(0, 5), 7);
        x.give(3, 0);
        due("a mile with sack 20", x.walker(0, 5), 8);
    }

    /** They are put together first and cut then. */
    private void tiredAndSackAreCutTogether() {
        int[][] dues = {{5, 1, 3}, {6, 1, 4}, {7, 0, 3}, {8, 0, 4}, {1, 3, 4}, {3, 2, 4}, {1, 2, 3}};
        for (int[] d : dues) {
            told("w" + d[0] + ",1;r3,0,1;s3," + d[1] + ";");
            x.go();
            due(d[0] + " miles with sack " + d[1] + ", then one", x.walker(0, 5), d[2]);
        }
        told("w9,6,1;r3,0,1;s3,0;");
        go(2);
        due("tired 15", x.walker(0, 5), 4);
        told("w9,7,1;r3,0,1;s3,0;");
        go(2);
        due("tired 16", x.walker(0, 5), 5);
    }

    /** "a quick one 1 less, 1 at least": of each mile. */
    private void aQuickOneTakes1AtLeast() {
        int[][] dues = {{1, 0, 1}, {2, 0, 1}, {3, 0, 2}, {20, 0, 19}, {1, 3, 1}, {1, 4, 1}, {1, 7, 1}, {1, 8, 2}, {2, 4, 2}};
        for (int[] d : dues) {
            String quick = "q" + d[0] + "," + d[1] + ";";
            due("a mile of " + quick, minutes("w1;r0,0,1;" + quick), d[2]);
            due("9 miles of " + quick, minutes("w9;r0,0,1;" + quick), 9 * d[2]);
        }
    }

    /** "an old, a lame one 3 more". */
    private void anOldAndALameOneTake3More() {
        for (String sort : new String[] {"o", "l"}) {
            due("a mile of " + sort + "1,0", minutes("w1;r0,0,1;" + sort + "1,0;"), 4);
            due("a mile of " + sort + "20,9", minutes("w1;r0,0,1;" + sort + "20,9;"), 25);
            due("9 miles of " + sort + "20,9", minutes("w9;r0,0,1;" + sort + "20,9;"), 225);
        }
        due("not a steady one", minutes("w1;r0,0,1;s1,0;"), 1);
        due("not a proud one", minutes("w1;r0,0,1;p1,0;"), 1);
    }

    private void minutesAreTimesMiles() {
        for (int miles = 1; miles <= 9; miles++) {
            told("w" + miles + ";r0,0,1;s7,4;");
            due("minutes of " + miles + " miles", x.walker(0, 5), 8 * miles);
            x.go();
            due("it comes then", x.walker(0, 3), 8 * miles);
        }
    }

    /** "TIRED (as it leaves)": neither as it comes nor ahead of mending. */
    private void tiredAsItLeaves() {
        told("w8,8;r3,0,1;s1,0;");
        x.go();
        dueAll("not tired while it went", walker(0), 1, 0, 8, 8, 0, 16);
        x.go();
        dueAll("tired 8 on the second leg", state(0), 16, 24, 0);
        told("w8,8;r1,2,1;s1,0;");
        x.go();
        dueAll("a rest of 2 mends 2", walker(0), 1, 0, 6, 10, 2, 8);
    }

    private int tiredBy(String text, int walker) {
        told(text);
        x.go();
        return x.walker(walker, 2);
    }

    /** "by MILES times (1, and half of SACK, cut)"; "a lame one by MILES more than a steady one". */
    private void halfASackIsCut() {
        int[] times = {1, 1, 2, 2, 3, 3, 4, 4, 5, 5};
        for (int sack = 0; sack <= 9; sack++) {
            for (int miles : new int[] {1, 9}) {
                String legs = "w" + miles + ";r0,0,1;";
                due("steady, sack " + sack, tiredBy(legs + "s5," + sack + ";", 0), miles * times[sack]);
                due("quick, sack " + sack, tiredBy(legs + "q5," + sack + ";", 0), miles * times[sack]);
                due("proud, behind, sack " + sack, tiredBy(legs + "o1,0;p5," + sack + ";", 1), miles * times[sack]);
                due("lame, sack " + sack, tiredBy(legs + "l5," + sack + ";", 0), miles * (times[sack] + 1));
            }
        }
        told("w3;r0,0,1;s3,9;l3,9;s3,1;s3,1;");
        x.give(1, 0);
        x.give(2, 0);
        x.go();
        due("steady, sack 19", x.walker(0, 2), 3 * 10);
        due("lame, sack 0", x.walker(1, 2), 3 * 2);
        x.undo();
        x.give(3, 0);
        x.go();
        due("steady, sack 20", x.walker(0, 2), 3 * 11);
        x.undo();
        x.give(0, 1);
        x.go();
        due("lame, sack 20", x.walker(1, 2), 3 * 12);
    }

    /** "an old one does not TIRE", whatever its sack. */
    private void anOldOneDoesNotTire() {
        due("without a sack", tiredBy("w9;r0,0,1;o5,0;", 0), 0);
        due("with one", tiredBy("w9;r0,0,1;o5,9;", 0), 0);
        due("behind others", tiredBy("w9;r0,0,1;s5,0;o5,9;", 1), 0);
    }

    /** "a proud one does not on a LEG that it begins ahead of all others (leaves at the least MINUTE". */
    private void aProudOneAhead() {
        due("alone", tiredBy("w9;r0,0,1;p5,9;", 0), 0);
        // It comes to gate 1 a minute ahead of 0, and tires on the first leg alone.
        told("w1,2;r3,0,1;s2,0;p1,0;");
        x.go();
        due("on the first leg it is behind 0", x.walker(1, 2), 1);
        x.go();
        due("on the second it is ahead", x.walker(1, 2), 1);
        // It comes a minute behind 1.
        told("w1,2;r3,0,1;p2,0;s1,0;");
        x.go();
        due("on the first leg it is ahead of 1", x.walker(0, 2), 0);
        x.go();
        due("on the second it is behind", x.walker(0, 2), 2);
        // By rule 0 both leave at once.
        told("w1,2;r0,0,1;p2,0;s1,0;");
        go(2);
        due("at once with 1", x.walker(0, 2), 0);
    }

    /** "of several the least number)". */
    private void ofSeveralTheLeastNumberIsAhead() {
        due("p and s", tiredBy("w3;r0,0,1;p5,0;s5,0;", 0), 0);
        due("s and p", tiredBy("w3;r0,0,1;s5,0;p5,0;", 1), 3);
        due("p and p: the first", tiredBy("w3;r0,0,1;p5,0;p5,0;", 0), 0);
        due("p and p: the second", tiredBy("w3;r0,0,1;p5,0;p5,0;", 1), 3);
        due("the last of six", tiredBy("w3;r0,0,1;o1,0;o1,0;o1,0;o1,0;o1,0;p5,0;", 5), 3);
        // Both come at 2, and leave at once: 0 has the least number.
        told("w1,2;r3,0,1;s2,0;p2,0;");
        go(2);
        due("at the same minute", x.walker(1, 2), 3);
        // 1 and 2 come at 2, 0 at 3: of 1 and 2 the proud 1 is ahead.
        told("w1,2;r3,0,1;s3,0;p2,0;p2,0;");
        go(2);
        due("1 is ahead", x.walker(1, 2), 1);
        due("2 is not", x.walker(2, 2), 3);
    }

    // ---- rules and rests

    private void dueLeaves(int rule, int m, int first, int second, int third) {
        String by = "rule " + rule + ", m " + m;
        int[] came = {10, 14, 20}, leaves = {first, second, third};
        told("w2,1;r" + rule + "," + m + ",1;" + THREE);
        x.go();
        for (int i = 0; i < 3; i++) {
            dueAll(by + ": walker " + i, state(i), 0, leaves[i], leaves[i] - came[i]);
        }
        told("w2,1;r0,0,1;o7,0;o4,0;o2,0;");
        x.rule(rule, m);
        x.go();
        for (int i = 0; i < 3; i++) {
            dueAll(by + ", the other way round: walker " + i, state(2 - i), 0, leaves[i], leaves[i] - came[i]);
        }
    }

    /** "0 when the last one comes; 1 M MINUTES behind that; 2 .. behind when the first one came, or when one comes". */
    private void allLeaveByRule() {
        dueLeaves(0, 0, 20, 20, 20);
        dueLeaves(0, 30, 20, 20, 20);
        dueLeaves(1, 0, 20, 20, 20);
        dueLeaves(1, 1, 21, 21, 21);
        dueLeaves(1, 30, 50, 50, 50);
        dueLeaves(2, 0, 10, 14, 20);
        dueLeaves(2, 1, 11, 14, 20);
        dueLeaves(2, 3, 13, 14, 20);
        dueLeaves(2, 4, 14, 14, 20);
        dueLeaves(2, 5, 15, 15, 20);
        dueLeaves(2, 9, 19, 19, 20);
        dueLeaves(2, 10, 20, 20, 20);
        dueLeaves(2, 11, 21, 21, 21);
        dueLeaves(2, 30, 40, 40, 40);
        dueLeaves(3, 0, 10, 14, 20);
        dueLeaves(3, 30, 10, 14, 20);
    }

    /** The first and the last one are so at each gate anew. */
    private void ofTheFirstAndOfTheLast() {
        // 0 goes 3 a mile first, 1 goes 10 always.
        told("w9,9,1;r3,0,1;s1,8;o7,0;");
        x.go();
        dueAll("0 at gate 1", state(0), 45, 27, 0);
        dueAll("1 at gate 1", state(1), 0, 90, 0);
        x.rule(0, 0);
        x.go();
        // 0 comes at 27 + 9 * (1 + 61 / 8) = 99, 1 at 180.
        dueAll("0 at gate 2", state(0), 90 - 4, 180, 81);
        dueAll("1 at gate 2", state(1), 0, 180, 0);
        x.undo();
        x.rule(2, 30);
        x.go();
        dueAll("0 at gate 2 by rule 2", state(0), 90 - 4, 129, 30);
        dueAll("1 at gate 2 by rule 2", state(1), 0, 180, 0);
        // 1 comes at 81 ahead of 0 at 90; tired 45 less 2 it goes 14 a mile then, and is the last one at gate 2.
        told("w9,9,1;r0,0,1;o7,0;s7,9;");
        x.go();
        dueAll("0 came last", state(0), 0, 90, 0);
        dueAll("1 waited", state(1), 43, 90, 9);
        x.go();
        dueAll("0 waits then", state(0), 0, 216, 36);
        dueAll("1 comes last", state(1), 88, 216, 9);
    }

    private void aLoneOneByRules() {
        int[] leaves = {9, 39, 39, 9};
        for (int rule = 0; rule <= 3; rule++) {
            told("w9,1;r" + rule + ",30,1;s1,0;");
            x.go();
            due("alone by rule " + rule, x.walker(0, 3), leaves[rule]);
            due("it rested", x.walker(0, 4), leaves[rule] - 9);
        }
    }

    private static int mended(int rest) {
        int[] by = {0, 0, 2, 2, 2, 2, 2, 2, 2, 2, 6, 6, 6, 6, 6, 6, 6, 6, 6, 6, 6, 4, 4, 4, 4, 4, 4, 4, 4, 4, 4};
        return by[Math.min(rest, 30)];
    }

    /** "by 0 of a REST below 2, by 2 below 10, by 6 of 10 to 20, by 4 above (cold)". */
    private void everyRestMends() {
        for (int m = 0; m <= 30; m++) {
            for (int rule = 1; rule <= 2; rule++) {
                told("w9,1;r" + rule + "," + m + ",1;s1,0;");
                x.go();
                dueAll("a rest of " + m, state(0), 9 - mended(m), 9 + m, m);
            }
            // Of two the first one waits for the other, who comes m later and has no rest.
            if (m <= 19) {
                told("w1,1;r0,0,1;l1,9;l" + (m + 1) + ",9;");
                x.go();
                dueAll("waiting for " + m, state(0), Math.max(0, 6 - mended(m)), 6 + m, m);
                dueAll("whoever comes last has no rest", state(1), 6, 6 + m, 0);
            }
        }
        // 20 and 21 by waiting: 1 comes at 6, the other at 26 and 27.
        told("w1,1;r0,0,1;l1,9;o20,9;l1,9;");
        x.give(2, 1);
        x.go();
        due("it comes with 18", x.walker(1, 3), 20 + 36 / 8 + 3);
        dueAll("a rest of 21 is cold", state(0), 2, 27, 21);
        told("w1,1;r0,0,1;l1,9;o20,9;l1,6;");
        x.give(2, 1);
        x.go();
        dueAll("a rest of 20 is not", state(0), 0, 26, 20);
    }

    /** "By how much a REST (0 to 999) mends. BAD." */
    private void mends0To999() {
        fresh();
        for (int rest = 0; rest <= 40; rest++) {
            due("mends(" + rest + ")", x.mends(rest), mended(rest));
        }
        for (int rest : new int[] {41, 100, 998, 999}) {
            due("mends(" + rest + ")", x.mends(rest), 4);
        }
        for (int bad : new int[] {LEAST, -2, -1, 1000, 1001, MOST}) {
            due("mends(" + bad + ")", x.mends(bad), BAD);
        }
    }

    /** A rest at a gate can be longer than mends() is asked for: it is cold, too. */
    private void aRestLongerThanThat() {
        told("w9,9,9,9,9;r3,0,999;s1,0;l20,9;l1,9;");
        x.give(2, 1);
        x.rule(3, 0);
        go(3);
        due("0 waits nowhere", x.walker(0, 4), 0);
        int tired = x.walker(0, 2), comes = x.walker(0, 3) + x.walker(0, 5), last = x.walker(1, 3) + x.walker(1, 5);
        x.rule(0, 0);
        x.go();
        due("longer than 999", last - comes > 999 ? 1 : 0, 1);
        dueAll("0 has rested", state(0), tired + 9 - 4, last, last - comes);
    }

    /** "TIRED is less (0 at least)". */
    private void tiredIs0AtLeast() {
        int[][] dues = {{1, 1, 1}, {1, 2, 0}, {2, 2, 0}, {3, 2, 1}, {3, 9, 1}, {5, 10, 0}, {6, 10, 0}, {7, 10, 1},
            {7, 20, 1}, {3, 21, 0}, {4, 21, 0}, {5, 21, 1}};
        for (int[] d : dues) {
            told("w" + d[0] + ",1;r1," + d[1] + ",1;s1,0;");
            x.go();
            due("tired " + d[0] + ", a rest of " + d[1], x.walker(0, 2), d[2]);
            due("so it is foretold", x.there(0, 2), d[2] + 1);
        }
    }

    /** "At THE HUT nobody RESTS (a WALKER leaves it as it comes)." */
    private void nobodyRestsAtTheHut() {
        for (int rule = 0; rule <= 3; rule++) {
            told("w5;r" + rule + ",30,1;s2,0;l3,0;");
            x.go();
            dueAll("0 by rule " + rule, walker(0), 2, 0, 5, 10, 0, NONE);
            dueAll("1 by rule " + rule, walker(1), 3, 0, 10, 30, 0, NONE);
        }
    }

    // ---- acts

    /** "STATE: no WAY". */
    private void goWithoutAWay() {
        fresh();
        due("go()", x.go(), STATE);
        due("acts", x.count(7), 0);
        read("w");
        due("go() behind a fault", x.go(), STATE);
    }

    private void goWithoutWalkers() {
        for (int rule = 0; rule <= 3; rule++) {
            told("w1,2,3;r" + rule + ",30,1;");
            due("gate 1", x.go(), 1);
            due("gate 2", x.go(), 2);
            due("the hut", x.go(), 3);
            due("no more", x.go(), STATE);
            due("undone", x.undo(), 2);
            due("the gate", x.count(3), 2);
        }
    }

    /** "RULE (0 to 3) and M (0 to 30)", "BAD; STATE: no WAY (ahead of BAD)". */
    private void ruleAndMInTheirBounds() {
        int[] badRules = {LEAST, -1, 4, 5, MOST}, badMs = {LEAST, -1, 31, 32, MOST};
        fresh();
        due("no way", x.rule(0, 0), STATE);
        for (int bad : badRules) {
            due("no way, rule " + bad, x.rule(bad, 0), STATE);
        }
        for (int bad : badMs) {
            due("no way, m " + bad, x.rule(0, bad), STATE);
        }
        told("w1;r0,0,1;");
        for (int bad : badRules) {
            due("rule " + bad, x.rule(bad, 0), BAD);
            due("rule " + bad + ", m 31", x.rule(bad, 31), BAD);
        }
        for (int bad : badMs) {
            for (int rule = 0; rule <= 3; rule++) {
                due("m " + bad, x.rule(rule, bad), BAD);
            }
        }
        due("no act of all these", x.count(7), 0);
    }

    /** "31 times RULE, and M, as they were". */
    private void ruleSaysHowTheyWere() {
        told("w1;r3,30,1;");
        int was = 123;
        for (int rule = 0; rule <= 3; rule++) {
            for (int m = 0; m <= 30; m += 15) {
                due("rule(" + rule + ", " + m + ")", x.rule(rule, m), was);
                due("count(4)", x.count(4), rule);
                due("count(5)", x.count(5), m);
                was = 31 * rule + m;
            }
        }
    }

    /** "(one has 0 then, the other one as much more". */
    private void aSackIsGiven() {
        told("w1;r0,0,1;s1,3;q1,4;p1,0;o1,9;l1,1;s1,2;");
        due("give(0, 1)", x.give(0, 1), 7);
        due("0 has none", x.walker(0, 1), 0);
        due("1 has both", x.walker(1, 1), 7);
        due("give(5, 0)", x.give(5, 0), 2);
        due("give(2, 3), who has none", x.give(2, 3), 9);
        due("2 has none", x.walker(2, 1), 0);
        due("give(3, 2)", x.give(3, 2), 9);
        due("3 has none", x.walker(3, 1), 0);
        due("4 has its own", x.walker(4, 1), 1);
        due("acts", x.count(7), 4);
    }

    /** "20 at most)", "FULL: above 20". */
    private void twentyAtMost() {
        told("w1;r0,0,1;s1,9;s1,9;s1,2;s1,1;s1,3;s1,0;");
        due("18", x.give(0, 1), 18);
        due("21", x.give(4, 1), FULL);
        due("the giver has it still", x.walker(4, 1), 3);
        due("the other has no more", x.walker(1, 1), 18);
        due("19", x.give(3, 1), 19);
        due("21", x.give(2, 1), FULL);
        due("none to 19", x.give(5, 1), 19);
        due("acts", x.count(7), 3);
        x.undo();
        x.undo();
        due("20", x.give(2, 1), 20);
        due("21", x.give(3, 1), FULL);
        due("20 the other way", x.give(1, 3), FULL);
        due("none to 20", x.give(5, 1), 20);
        due("20 to none", x.give(1, 5), 20);
        due("1 has none", x.walker(1, 1), 0);
    }

    /** "BAD: alike, too", ahead of FULL. */
    private void nobodyGivesToItself() {
        told("w1;r0,0,1;s1,9;s1,9;s1,9;s1,0;");
        x.give(0, 1);
        for (int i = 0; i < 4; i++) {
            due("give(" + i + ", " + i + ")", x.give(i, i), BAD);
        }
        for (int bad : new int[] {LEAST, -1, 4, 6, MOST}) {
            due("give(" + bad + ", 1)", x.give(bad, 1), BAD);
            due("give(1, " + bad + ")", x.give(1, bad), BAD);
            due("give(" + bad + ", " + bad + ")", x.give(bad, bad), BAD);
        }
        due("27", x.give(2, 1), FULL);
        due("acts", x.count(7), 1);
        told("w1;r0,0,1;s1,9;");
        due("there is no other one", x.give(0, 1), BAD);
        told("w1;r0,0,1;");
        due("there is none", x.give(0, 1), BAD);
    }

    /** "STATE: none". */
    private void nothingIsUndone() {
        fresh();
        due("no way", x.undo(), STATE);
        told("w1;r0,0,1;");
        due("no act", x.undo(), STATE);
        x.rule(1, 1);
        due("one", x.undo(), 0);
        due("no more", x.undo(), STATE);
        due("the rule is as it was", x.count(4), 0);
    }

    /** "24 at most are kept, of more the oldest is forgotten". */
    private void atMost24ActsAreKept() {
        for (int n : new int[] {1, 23, 24, 25, 26, 47, 48, 49}) {
            told("w1;r0,0,1;");
            for (int i = 1; i <= n; i++) {
                x.rule(i / 30, i % 30);
                due("act " + i, x.count(7), Math.min(i, 24));
            }
            int kept = Math.min(n, 24);
            for (int left = kept - 1; left >= 0; left--) {
                int is = n - kept + left;
                due("of " + n + " one is undone", x.undo(), left);
                due("count(7)", x.count(7), left);
                due("the rule", x.count(4), is / 30);
                due("m", x.count(5), is % 30);
            }
            due("none is left of " + n, x.undo(), STATE);
        }
    }

    private void theOldestIsForgotten() {
        told("w2,3;r0,0,1;s5,4;s5,0;");
        x.go();
        for (int i = 1; i <= 24; i++) {
            x.give(i % 2, 1 - i % 2);
        }
        due("24 are kept", x.count(7), 24);
        for (int i = 23; i >= 0; i--) {
            due("undone", x.undo(), i);
        }
        due("the leg cannot be undone", x.undo(), STATE);
        due("the gate", x.count(3), 1);
        due("the sack", x.walker(0, 1), 4);
    }

    private int[] everything() {
        int[] all = new int[6 + 12];
        for (int i = 0; i < 6; i++) {
            all[i] = x.count(i + 1);
            all[6 + i] = x.walker(0, i);
            all[12 + i] = x.walker(1, i);
        }
        return all;
    }

    /** "each can be undone, the latest first". */
    private void theLatestIsUndoneFirst() {
        told("w2,3,4;r0,0,1;s5,4;l3,2;");
        int[][] before = new int[9][];
        for (int act = 0; act < 9; act++) {
            before[act] = everything();
            int answer = act % 3 == 0 ? x.go() : act % 3 == 1 ? x.rule(act / 3 + 1, act) : x.give(act % 2, 1 - act % 2);
            due("act " + act + " is done", answer >= 0 ? 1 : 0, 1);
        }
        for (int act = 8; act >= 0; act--) {
            due("act " + act + " is undone", x.undo(), act);
            dueAll("all is as it was ahead of act " + act, everything(), before[act]);
        }
    }

    private void actsGoRoundAndRound() {
        told("w1;r0,0,1;");
        for (int i = 1; i <= 30; i++) {
            x.rule(1, i);
        }
        for (int i = 0; i < 20; i++) {
            x.undo();
        }
        due("four are left", x.count(7), 4);
        due("m is", x.count(5), 10);
        for (int i = 11; i <= 29; i++) {
            x.rule(2, i);
        }
        due("23 then", x.count(7), 23);
        for (int i = 22; i >= 4; i--) {
            due("undone", x.undo(), i);
            due("m", x.count(5), i + 6);
        }
        due("the rule of old", x.count(4), 1);
        for (int i = 3; i >= 0; i--) {
            due("undone", x.undo(), i);
            due("m", x.count(5), i + 6);
        }
        due("no more", x.undo(), STATE);
        due("m", x.count(5), 6);
    }

    private void whatIsRefusedIsNoAct() {
        told("w1;r0,0,1;s1,9;s1,9;s1,9;");
        x.give(0, 1);
        x.go();
        x.rule(4, 0);
        x.rule(0, 31);
        x.give(1, 1);
        x.give(0, 3);
        x.give(2, 1);
        x.go();
        due("two acts", x.count(7), 2);
        due("the leg is undone", x.undo(), 1);
        due("gate 0", x.count(3), 0);
        due("the sack is back", x.undo(), 0);
        due("0 has it", x.walker(0, 1), 9);
    }

    /** At the hut sacks can be given and rules be others, and legs undone. */
    private void actsAtTheHut() {
        told("w1;r0,0,1;s1,2;s1,3;");
        x.go();
        due("rule(2, 2)", x.rule(2, 2), 0);
        due("give(0, 1)", x.give(0, 1), 5);
        due("undo()", x.undo(), 2);
        due("undo()", x.undo(), 1);
        due("undo()", x.undo(), 0);
        due("gate 0", x.count(3), 0);
    }

    /** "An object is used for at most 512 calls": the last of them is as well as the first. */
    private void upToTheLastOf512Calls() {
        told("w1;r0,0,1;");
        int calls = 11;
        for (int i = 1; i <= 476; i++) {
            int was = (i - 1) % 124;
            due("rule no. " + i, x.rule(i % 124 / 31, i % 31), was);
            calls++;
        }
        due("24 are kept", x.count(7), 24);
        calls++;
        for (int left = 23; left >= 0; left--) {
            due("undone", x.undo(), left);
            calls++;
        }
        due("calls", calls, 512);
    }

    /** "0 PACE, 1 SACK, .. 5 how many MINUTES the next LEG takes it. BAD." */
    private void whatOfAWalker() {
        fresh();
        due("no way", x.walker(0, 0), BAD);
        told("w1;r0,0,1;");
        due("no walkers", x.walker(0, 0), BAD);
        told("w2;r0,0,1;s1,2;s3,4;");
        for (int bad : new int[] {LEAST, -1, 2, 5, 6, MOST}) {
            for (int what = 0; what <= 5; what++) {
                due("walker(" + bad + ", " + what + ")", x.walker(bad, what), BAD);
            }
        }
        for (int gate = 0; gate <= 1; gate++) {
            for (int bad : new int[] {LEAST, -1, 6, 7, MOST}) {
                due("walker(0, " + bad + ")", x.walker(0, bad), BAD);
                due("walker(1, " + bad + ")", x.walker(1, bad), BAD);
            }
            x.go();
        }
        due("no such walker at the hut", x.walker(2, 5), BAD);
        dueAll("walker 1 at the hut", walker(1), 3, 4, 6, 8, 0, NONE);
    }

    /** "MILES of a LEG. BAD." */
    private void legsInTheirBounds() {
        fresh();
        due("no way", x.leg(0), BAD);
        told("w9,8,7;r0,0,1;");
        for (int gate = 0; gate <= 3; gate++) {
            dueAll("legs from gate " + gate, new int[] {x.leg(0), x.leg(1), x.leg(2)}, 9, 8, 7);
            for (int bad : new int[] {LEAST, -1, 3, 7, 8, MOST}) {
                due("leg(" + bad + ")", x.leg(bad), BAD);
            }
            x.go();
        }
    }
}
