/** IMAGES, KINDS, ASKS, THE TRACE, counts and status(), promises 25 to 32: each sentence that names an edge. */
public final class AskEdgesTest extends Edges {
    private static final String EVERY_KIND = "w8;r3,0,9;s3,0;q4,0;p5,0;o6,0;l7,0;s20,9;";
    private static final int[] NO_IMAGE = {LEAST, -1, 2, 3, MOST};

    public static void main(String[] args) {
        AskEdgesTest test = new AskEdgesTest();
        test.imagesAre0And1();
        test.noneWasKept();
        test.anImageIsKeptAsItIs();
        test.anImageOfNobody();
        test.noActCanBeUndoneThen();
        test.whatIsNoPartOfTheWayStays();
        test.kindsOfWhom();
        test.asWhat();
        test.everyAskOfEveryKind();
        test.asksGoByTiredAndNumber();
        test.theTraceIsEmptyAheadOfIt();
        test.numbersOfTheTrace();
        test.countWhat();
        test.statusAtFirst();
        test.statusOfEachFinding();
        test.refusalsLeaveStatus();
        test.callsWithoutARowLeaveStatus();
        test.check.end();
    }

    // ---- images

    /** "An IMAGE (0, 1) is kept of the WAY: 1. BAD; STATE: no WAY." */
    private void imagesAre0And1() {
        fresh();
        for (int bad : NO_IMAGE) {
            due("no way, image(" + bad + ")", x.image(bad), BAD);
        }
        due("no way, image(0)", x.image(0), STATE);
        due("no way, image(1)", x.image(1), STATE);
        read("w");
        due("a fault is no way", x.image(0), STATE);
        read("w1;r0,0,1;");
        for (int bad : NO_IMAGE) {
            due("image(" + bad + ")", x.image(bad), BAD);
        }
        due("image(0)", x.image(0), 1);
        due("image(1)", x.image(1), 1);
        due("image(1) again", x.image(1), 1);
    }

    /** "BAD; STATE: none was kept". */
    private void noneWasKept() {
        fresh();
        for (int bad : NO_IMAGE) {
            due("no way, restore(" + bad + ")", x.restore(bad), BAD);
        }
        due("no way, restore(0)", x.restore(0), STATE);
        due("no way, restore(1)", x.restore(1), STATE);
        x.image(0);
        due("what was refused is not kept", x.restore(0), STATE);
        read("w1;r0,0,1;s1,1;s2,2;");
        due("restore(0)", x.restore(0), STATE);
        x.image(1);
        due("only 1 was", x.restore(0), STATE);
        x.rule(1, 1);
        due("what is refused leaves the acts", x.restore(0), STATE);
        due("undo()", x.undo(), 0);
        due("restore(1)", x.restore(1), 1);
        for (int bad : NO_IMAGE) {
            due("restore(" + bad + ")", x.restore(bad), BAD);
        }
    }

    private void dueWay(String told, int gate, int rule, int m, int sun, int legs, int walkers) {
        int[] counts = {x.count(3), x.count(4), x.count(5), x.count(6), x.count(1), x.count(2)};
        dueAll(told, counts, gate, rule, m, sun, legs, walkers);
    }

    /** "The WAY is as an IMAGE kept it": whatever came then, and as often as it is asked for. */
    private void anImageIsKeptAsItIs() {
        told("w2,3;r1,4,100;s5,0;o2,8;");
        x.image(0);
        x.go();
        x.image(1);
        for (int i = 0; i < 3; i++) {
            x.rule(2, 20);
            x.give(1, 0);
            x.go();
            due("restore(0)", x.restore(0), 1);
            dueWay("as at first", 0, 1, 4, 100, 2, 2);
            dueAll("0 at first", walker(0), 5, 0, 0, 0, 0, 10);
            dueAll("1 at first", walker(1), 2, 8, 0, 0, 0, 14);
            x.give(0, 1);
            x.go();
            read("w9;r3,3,3;l1,1;l1,1;l1,1;");
            due("restore(1)", x.restore(1), 1);
            dueWay("at gate 1", 1, 1, 4, 100, 2, 2);
            dueAll("0 at gate 1", walker(0), 5, 0, 0, 18, 8, 15);
            dueAll("1 at gate 1", walker(1), 2, 8, 0, 18, 4, 21);
            dueAll("legs and kinds", new int[] {x.leg(0), x.leg(1), x.leg(2), x.kind(0), x.kind(1)}, 2, 3, BAD, 1, 4);
        }
        x.go();
        due("1 is another one now", x.image(1), 1);
        x.restore(0);
        x.restore(1);
        dueWay("at the hut", 2, 1, 4, 100, 2, 2);
        due("no leg", x.walker(0, 5), NONE);
        x.restore(0);
        dueWay("0 is as it was", 0, 1, 4, 100, 2, 2);
    }

    private void anImageOfNobody() {
        told("w2,3;r1,4,100;");
        x.image(0);
        read("w1;r0,0,1;s1,1;");
        due("restore(0)", x.restore(0), 1);
        dueWay("nobody again", 0, 1, 4, 100, 2, 0);
        due("walker(0, 0)", x.walker(0, 0), BAD);
        due("allThere()", x.allThere(), 0);
    }

    /** "(no ACT can be undone then)". */
    private void noActCanBeUndoneThen() {
        told("w2,3;r1,4,100;s5,0;o2,8;");
        x.rule(2, 2);
        x.go();
        x.image(0);
        due("an image leaves the acts", x.count(7), 2);
        x.restore(0);
        due("none can be undone", x.count(7), 0);
        due("undo()", x.undo(), STATE);
        dueWay("the way is as it was", 1, 2, 2, 100, 2, 2);
        x.go();
        due("a later one can", x.undo(), 0);
        dueWay("undone", 1, 2, 2, 100, 2, 2);
        due("and no other", x.undo(), STATE);
    }

    private void whatIsNoPartOfTheWayStays() {
        told("w8;r3,0,9;o6,0;");
        x.image(0);
        x.ask(0, 1);
        x.row(3, 2, 7);
        read("w0");
        x.set(4, 0, 0);
        feed("w1");
        due("restore(0)", x.restore(0), 1);
        due("the trace", x.trace(0), 23);
        due("the fault", x.fault(), 2);
        due("status()", x.status(), 1);
        due("the tape", x.count(8), 2);
        due("the row", x.drop(3), 7);
    }

    // ---- kinds and asks

    /** "The KIND of a WALKER, as told (1 to 5). BAD." */
    private void kindsOfWhom() {
        fresh();
        due("no way", x.kind(0), BAD);
        told("w1;r0,0,1;");
        due("nobody", x.kind(0), BAD);
        told(EVERY_KIND);
        dueAll("kinds", new int[] {x.kind(0), x.kind(1), x.kind(2), x.kind(3), x.kind(4), x.kind(5)}, 1, 2, 3, 4, 5, 1);
        for (int bad : new int[] {LEAST, -1, 6, 7, MOST}) {
            due("kind(" + bad + ")", x.kind(bad), BAD);
        }
    }

    /** "its number. BAD; KIND: it is no such one." */
    private void asWhat() {
        fresh();
        due("no way", x.as(0, 0), BAD);
        told("w1;r0,0,1;");
        due("nobody", x.as(0, 0), BAD);
        told(EVERY_KIND);
        String[] such = {"110000", "111000", "110100", "100010", "100011", "110000"};
        for (int i = 0; i < 6; i++) {
            for (int kind = 0; kind <= 5; kind++) {
                boolean is = such[i].charAt(kind) == '1';
                due("as(" + i + ", " + kind + ")", x.as(i, kind), is ? i : KIND);
                due("status()", x.status(), is ? 0 : 3);
            }
        }
        x.as(0, 5);
        for (int bad : new int[] {LEAST, -1, 6, 7, MOST}) {
            due("as(" + bad + ", 0)", x.as(bad, 0), BAD);
            due("as(0, " + bad + ")", x.as(0, bad), BAD);
            due("as(" + bad + ", " + bad + ")", x.as(bad, bad), BAD);
        }
        due("status() stays", x.status(), 3);
        due("no kind has changed", x.kind(0), 1);
    }

    private void dueAsk(int walker, int what, int want, int... bodies) {
        String call = "ask(" + walker + ", " + what + ")";
        due(call, x.ask(walker, what), want);
        for (int i = 0; i < 17; i++) {
            due("trace(" + i + ") of " + call, x.trace(i), i < bodies.length ? bodies[i] : NONE);
        }
    }

    /** "the BODY told for the KIND begins, else that of the nearest KIND that it is, too, else the one that is lent". */
    private void everyAskOfEveryKind() {
        told(EVERY_KIND);
        dueAsk(0, 0, 3, 11, 10, 21, 20);
        dueAsk(0, 1, 0, 21, 20);
        dueAsk(1, 0, -(4 + 2), 12, 11, 10, 24, 21, 20);
        dueAsk(1, 1, 2, 24, 21, 20);
        dueAsk(2, 0, 5 + 2 - 1000, 11, 10, 22, 21, 20);
        dueAsk(2, 1, 2 - 1000, 22, 21, 20);
        dueAsk(3, 0, 6 - 100, 13, 10);
        dueAsk(3, 1, 3 + 94, 23, 20, 13, 10);
        dueAsk(4, 0, 2 * (7 - 100), 14, 13, 10);
        dueAsk(4, 1, 4 + 186, 23, 20, 14, 13, 10);
        dueAsk(5, 0, 20 + 5, 11, 10, 21, 20);
        dueAsk(5, 1, 5, 21, 20);
        for (int bad : new int[] {LEAST, -1, 6, 7, MOST}) {
            due("ask(" + bad + ", 0)", x.ask(bad, 0), BAD);
            due("ask(" + bad + ", 1)", x.ask(bad, 1), BAD);
        }
        for (int bad : new int[] {LEAST, -1, 2, 3, MOST}) {
            due("ask(0, " + bad + ")", x.ask(0, bad), BAD);
        }
        fresh();
        due("no way", x.ask(0, 0), BAD);
        told("w1;r0,0,1;");
        due("nobody", x.ask(0, 0), BAD);
    }

    private void asksGoByTiredAndNumber() {
        told("w8;r3,0,9;l7,0;s20,9;q1,0;p5,2;o6,9;");
        x.go();
        dueAsk(1, 0, 20 + 1 + 40, 11, 10, 21, 20);
        dueAsk(1, 1, 1 + 40, 21, 20);
        dueAsk(2, 0, -(1 + 2 * (2 + 8)), 12, 11, 10, 24, 21, 20);
        dueAsk(2, 1, 2 * (2 + 8), 24, 21, 20);
        dueAsk(3, 1, 3 + 16 - 1000, 22, 21, 20);
        dueAsk(4, 1, 4 - (6 - 100), 23, 20, 13, 10);
        dueAsk(0, 0, -186, 14, 13, 10);
        x.undo();
        dueAsk(1, 1, 1, 21, 20);
    }

    /** "THE TRACE is empty ahead of it." */
    private void theTraceIsEmptyAheadOfIt() {
        told(EVERY_KIND);
        dueAsk(1, 0, -6, 12, 11, 10, 24, 21, 20);
        dueAsk(3, 0, -94, 13, 10);
        due("a refused one leaves it", x.ask(6, 0), BAD);
        due("trace(0)", x.trace(0), 13);
        due("trace(1)", x.trace(1), 10);
        x.ask(3, 2);
        due("trace(0) still", x.trace(0), 13);
        x.go();
        x.undo();
        x.as(0, 5);
        read("w1;r0,0,1;");
        due("other calls leave it, too", x.trace(0), 13);
        due("trace(2)", x.trace(2), NONE);
    }

    /** "Number i of THE TRACE; NONE." (the first 16: no ask has more than 6). */
    private void numbersOfTheTrace() {
        int[] none = {LEAST, -2, -1, 6, 7, 15, 16, 17, MOST};
        fresh();
        for (int i : none) {
            due("at first trace(" + i + ")", x.trace(i), NONE);
        }
        due("at first trace(0)", x.trace(0), NONE);
        told(EVERY_KIND);
        due("ahead of an ask trace(0)", x.trace(0), NONE);
        x.ask(1, 0);
        due("trace(0)", x.trace(0), 12);
        due("trace(5)", x.trace(5), 20);
        for (int i : none) {
            due("trace(" + i + ")", x.trace(i), NONE);
        }
    }

    // ---- counts and status

    /** "How many: .. BAD." */
    private void countWhat() {
        int[] no = {LEAST, -2, -1, 9, 10, MOST};
        fresh();
        for (int bad : no) {
            due("no way, count(" + bad + ")", x.count(bad), BAD);
        }
        for (int what = 0; what <= 8; what++) {
            due("no way, count(" + what + ")", x.count(what), 0);
        }
        told("w9,8,7;r2,13,456;s1,1;q2,2;");
        for (int bad : no) {
            due("count(" + bad + ")", x.count(bad), BAD);
        }
        int[] counts = {0, 3, 2, 0, 2, 13, 456, 0, 0};
        for (int what = 0; what <= 8; what++) {
            due("count(" + what + ")", x.count(what), counts[what]);
        }
    }

    /** "0: .. there was none." */
    private void statusAtFirst() {
        fresh();
        due("at first", x.status(), 0);
        x.row(8, 0, 0);
        x.set(-1, 0, 0);
        x.copy(0, 0, 8, 0, 0);
        x.drop(9);
        x.as(0, 0);
        x.fits(0, 0, 0, 1, 0);
        due("of BAD ones alone", x.status(), 0);
    }

    /** "the number of its FINDING; 0: it had none". */
    private void statusOfEachFinding() {
        told("w1,1;r0,0,1;s1,0;");
        x.set(0, 0, 0);
        due("set: NULL", x.status(), 1);
        x.row(0, 0, 0);
        due("row: 0", x.status(), 0);
        x.set(0, 0, 0);
        due("set: PLACE", x.status(), 2);
        x.as(0, 0);
        due("as: 0", x.status(), 0);
        x.as(0, 4);
        due("as: KIND", x.status(), 3);
        x.row(1, 1, 1);
        due("row: 0", x.status(), 0);
        x.row(1, 1, -1);
        due("row: SIZE", x.status(), 4);
        x.set(1, 0, 0);
        due("set: 0", x.status(), 0);
        x.copy(0, 0, 1, 0, 0);
        due("copy: STORE", x.status(), 5);
        x.copy(0, 0, 0, 0, 0);
        due("copy: 0", x.status(), 0);
        x.copy(0, 0, 2, 0, 0);
        due("copy: NULL", x.status(), 1);
        x.copy(1, 0, 1, 1, 1);
        due("copy: PLACE", x.status(), 2);
        x.fits(0, 1, 0, 1, 0);
        due("fits: 0", x.status(), 0);
        x.fits(0, 1, 0, 2, 0);
        due("fits: PLACE", x.status(), 2);
        x.drop(0);
        due("drop: 0", x.status(), 0);
        x.drop(0);
        due("drop: NULL", x.status(), 1);
        x.fits(0, 1, 0, 1, 1);
        due("fits: 0, none fits", x.status(), 0);
        x.fits(0, 0, 0, 1, 0);
        due("fits: NULL", x.status(), 1);
        due("asked again", x.status(), 1);
    }

    /** "that was not BAD, STATE, FULL". */
    private void refusalsLeaveStatus() {
        told("w1,1;r0,0,1;s1,0;");
        x.row(0, 0, 1);
        for (int finding : new int[] {0, 4}) {
            if (finding == 4) {
                x.row(0, 0, -1);
            }
            int[] refused = {x.row(8, 0, -1), x.row(0, 3, -1), x.row(0, 0, 41), x.set(8, 0, 0), x.copy(8, 0, 0, 0, 0),
                x.copy(0, 0, -1, 0, 0), x.drop(-1), x.as(1, 0), x.as(0, 6), x.fits(1, 0, 0, 1, 0), x.fits(0, 8, 0, 1, 0),
                x.fits(0, 0, 0, 0, 0), x.fits(0, 0, 0, 1, 2)};
            for (int i = 0; i < refused.length; i++) {
                due("BAD " + i, refused[i], BAD);
            }
            due("STATE", x.fits(0, 7, 0, 3, 0), STATE);
            due("status() stays " + finding, x.status(), finding);
        }
    }

    /** Only calls "with a ROW, or as()" have a status. */
    private void callsWithoutARowLeaveStatus() {
        told("w1,1;r0,0,1;s1,1;s1,2;");
        x.as(0, 5);
        int[] answers = {x.feed('w'), x.feed(256), x.way(), x.fault(), x.go(), x.rule(1, 1), x.rule(4, 4), x.give(0, 1),
            x.give(0, 0), x.undo(), x.walker(0, 0), x.walker(9, 9), x.leg(0), x.leg(9), x.mends(0), x.mends(-1),
            x.there(0, 0), x.there(9, 9), x.allThere(), x.soonest(0), x.soonest(9), x.loses(0), x.loses(9), x.fair(0),
            x.fair(9), x.sacks(-1), x.sacks(9), x.parties(0), x.parties(9), x.turn(), x.image(0), x.image(9), x.restore(0),
            x.restore(1), x.restore(9), x.kind(0), x.kind(9), x.ask(0, 0), x.ask(9, 9), x.trace(0), x.trace(9), x.count(0),
            x.count(9), x.undo(), x.status()};
        due("status() stays", x.status(), 3);
        due("the last of these was it", answers[answers.length - 1], 3);
        told("w1,1;r0,0,1;s1,1;s1,2;");
        x.as(0, 0);
        x.go();
        x.ask(9, 9);
        due("0 stays, too", x.status(), 0);
    }
}
