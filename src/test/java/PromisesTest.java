/** Each promise by itself, with answers worked out by hand from the document. */
public final class PromisesTest {
    private static final int NONE = -1000000, BAD = -1000001, STATE = -1000002, FULL = -1000003;
    private static final int NULL = -1000011, PLACE = -1000012, KIND = -1000013, SIZE = -1000014, STORE = -1000015;
    private static final int LEAST = Integer.MIN_VALUE, MOST = Integer.MAX_VALUE;

    /** 0 comes first and waits 4 minutes at gate 1 by rule 0. */
    private static final String TWO = "w2,3;r0,0,100;s5,0;o2,8;";
    /** 1 is quicker on the first leg and slower on the second. */
    private static final String CHANGING = "w9,9;r0,0,999;o7,0;s7,9;";
    private static final String NOBODY = "w2,3;r1,4,50;";
    private static final String EVERY_KIND = "w8;r3,0,9;s3,0;q4,0;p5,0;o6,0;l7,0;";

    private static final Check CHECK = new Check();
    private static LastRest x;

    public static void main(String[] args) {
        promise1NewObject();
        promise2Row();
        promise3Set();
        promise4Copy();
        promise5Drop();
        promise6Feed();
        promise7Way();
        promise8Fault();
        faultsOfTexts();
        promise9Go();
        promise10Rule();
        promise11Give();
        promise12Undo();
        promise13Walker();
        promise14Leg();
        promise15Mends();
        restsByRules();
        tiringByKinds();
        promise16There();
        promise17AllThere();
        promise18Soonest();
        promise19Loses();
        promise20Fair();
        promise21Sacks();
        mostOfAll();
        promise22Parties();
        promise23Turn();
        promise24Fits();
        promise25Image();
        promise26Restore();
        promise27Kind();
        promise28As();
        promise29And30AskAndTrace();
        promise31Count();
        promise32Status();
        CHECK.end();
    }

    private static void due(String call, int got, int want) {
        CHECK.due(call, got, want);
    }

    private static void fresh() {
        x = new LastRest();
    }

    private static int read(String text) {
        for (int i = 0; i < text.length(); i++) {
            x.feed(text.charAt(i));
        }
        return x.way();
    }

    private static void told(String text) {
        fresh();
        due("way() is read: " + text, x.status() + (read(text) < 0 ? 1 : 0), 0);
    }

    private static void promise1NewObject() {
        fresh();
        for (int what = 0; what <= 8; what++) {
            due("1 count(" + what + ") of a new object", x.count(what), 0);
        }
        due("1 fault()", x.fault(), 0);
        due("1 status()", x.status(), 0);
        due("1 trace(0)", x.trace(0), NONE);
        due("1 allThere()", x.allThere(), STATE);
        due("1 walker(0, 0)", x.walker(0, 0), BAD);
    }

    private static void promise2Row() {
        fresh();
        due("2 row(0, 0, 0)", x.row(0, 0, 0), 0);
        due("2 row(7, 2, 40)", x.row(7, 2, 40), 40);
        due("2 row(8, 0, 1)", x.row(8, 0, 1), BAD);
        due("2 row(-1, 0, 1)", x.row(-1, 0, 1), BAD);
        due("2 row(0, -1, 1)", x.row(0, -1, 1), BAD);
        due("2 row(0, 3, -1)", x.row(0, 3, -1), BAD);
        due("2 row(0, 0, 41)", x.row(0, 0, 41), BAD);
        due("2 row(0, 0, MOST)", x.row(0, 0, MOST), BAD);
        due("2 row(7, 1, -1)", x.row(7, 1, -1), SIZE);
        due("2 row(7, 1, LEAST)", x.row(7, 1, LEAST), SIZE);
        due("2 a found row stays", x.set(7, 39, 70000), 70000);
        due("2 row(7, 2, 5) in place of it", x.row(7, 2, 5), 5);
        due("2 no place 5", x.set(7, 5, 1), PLACE);
        // All items of a new row are 0, seen by copying them over others and asking what fits.
        told("w1;r3,0,1;s1,0;");
        x.row(0, 2, 1);
        x.set(0, 0, 1);
        due("2 the minute fits", x.fits(0, 0, 0, 1, 0), 64);
        x.row(0, 2, 1);
        due("2 items are 0 anew", x.fits(0, 0, 0, 1, 0), 0);
    }

    private static void promise3Set() {
        fresh();
        due("3 set(8, 0, 0)", x.set(8, 0, 0), BAD);
        due("3 set(-1, 0, 0)", x.set(-1, 0, 0), BAD);
        due("3 set(3, 0, 0) of none", x.set(3, 0, 0), NULL);
        x.row(0, 0, 2);
        x.row(1, 1, 2);
        x.row(2, 2, 2);
        due("3 byte 127", x.set(0, 1, 127), 127);
        due("3 byte 128", x.set(0, 1, 128), -128);
        due("3 byte 256", x.set(0, 1, 256), 0);
        due("3 byte -129", x.set(0, 1, -129), 127);
        due("3 short 32767", x.set(1, 1, 32767), 32767);
        due("3 short 32768", x.set(1, 1, 32768), -32768);
        due("3 short -32769", x.set(1, 1, -32769), 32767);
        due("3 int MOST", x.set(2, 1, MOST), MOST);
        due("3 int LEAST", x.set(2, 0, LEAST), LEAST);
        due("3 set(0, 2, 0)", x.set(0, 2, 0), PLACE);
        due("3 set(0, -1, 0)", x.set(0, -1, 0), PLACE);
        due("3 set(0, MOST, 0)", x.set(0, MOST, 0), PLACE);
    }

    /** The arrival of a single steady walker with pace 1 on a leg of v miles is v: so an item is seen. */
    private static boolean holds(int row, int i, int v) {
        for (int letter : new int[] {'w', '0' + v, ';', 'r', '3', ',', '0', ',', '1', ';', 's', '1', ',', '0', ';'}) {
            x.feed(letter);
        }
        return x.way() == 1 && x.fits(0, row, i, 1, 0) == 64;
    }

    private static void dueItems(String told, int row, int... items) {
        for (int i = 0; i < items.length; i++) {
            due(told + ", item " + i + " is " + items[i], holds(row, i, items[i]) ? 1 : 0, 1);
        }
    }

    private static void promise4Copy() {
        fresh();
        due("4 no row", x.copy(8, 0, 0, 0, 0), BAD);
        due("4 no row b", x.copy(0, 0, -1, 0, 0), BAD);
        x.row(0, 0, 5);
        due("4 b is missing", x.copy(0, 0, 1, 0, 0), NULL);
        due("4 a is missing", x.copy(1, 0, 0, 0, 0), NULL);
        x.row(1, 1, 5);
        due("4 lanes, ahead of places", x.copy(0, 9, 1, 0, 1), STORE);
        x.row(2, 0, 3);
        due("4 beyond the end of a", x.copy(2, 1, 0, 0, 3), PLACE);
        due("4 beyond the end of b", x.copy(0, 0, 2, 1, 3), PLACE);
        due("4 i below 0", x.copy(0, -1, 2, 0, 1), PLACE);
        due("4 j below 0", x.copy(0, 0, 2, -1, 1), PLACE);
        due("4 n below 0", x.copy(0, 0, 2, 0, -1), PLACE);
        due("4 n wraps around", x.copy(0, 1, 2, 0, MOST), PLACE);
        due("4 i wraps around", x.copy(0, MOST, 2, 0, MOST), PLACE);
        due("4 none at the very end", x.copy(0, 5, 2, 3, 0), 0);
        due("4 none beyond it", x.copy(0, 6, 2, 3, 0), PLACE);
        for (int i = 0; i < 5; i++) {
            x.set(0, i, i + 1);
        }
        due("4 onto itself, up", x.copy(0, 0, 0, 1, 4), 4);
        dueItems("4 up", 0, 1, 1, 2, 3, 4);
        due("4 onto itself, down", x.copy(0, 2, 0, 0, 3), 3);
        dueItems("4 down", 0, 2, 3, 4, 3, 4);
        due("4 to another", x.copy(0, 1, 2, 1, 2), 2);
        x.set(2, 0, 9);
        dueItems("4 other", 2, 9, 3, 4);
        dueItems("4 the first stays", 0, 2, 3, 4, 3, 4);
    }

    private static void promise5Drop() {
        fresh();
        due("5 drop(8)", x.drop(8), BAD);
        due("5 drop(-1)", x.drop(-1), BAD);
        due("5 drop of none", x.drop(0), NULL);
        x.row(0, 1, 7);
        due("5 count(0)", x.count(0), 1);
        due("5 drop(0)", x.drop(0), 7);
        due("5 count(0) then", x.count(0), 0);
        due("5 drop again", x.drop(0), NULL);
        due("5 set then", x.set(0, 0, 0), NULL);
    }

    private static void promise6Feed() {
        fresh();
        due("6 feed(-1)", x.feed(-1), BAD);
        due("6 feed(256)", x.feed(256), BAD);
        due("6 feed(0)", x.feed(0), 1);
        due("6 feed(255)", x.feed(255), 2);
        for (int i = 3; i <= 120; i++) {
            due("6 feed no. " + i, x.feed('a'), i);
        }
        due("6 a byte more", x.feed('a'), FULL);
        due("6 BAD ahead of FULL", x.feed(256), BAD);
        due("6 count(8)", x.count(8), 120);
        due("6 way()", x.way(), -1000100);
        due("6 feed again", x.feed('a'), 1);
    }

    private static void promise7Way() {
        fresh();
        due("7 no walkers", read(NOBODY), 0);
        due("7 legs", x.count(1), 2);
        due("7 two walkers", read(TWO), 2);
        due("7 six walkers", read("w1,2,3,4,5,6,7,8;r3,30,999;s20,9;q1,0;p2,1;o3,2;l4,3;s5,4;"), 6);
        due("7 eight legs", x.count(1), 8);
        due("7 leg(7)", x.leg(7), 8);
        due("7 pace", x.walker(0, 0), 20);
        due("7 sack", x.walker(0, 1), 9);
        due("7 three figures", read("w001;r000,030,001;s020,009;"), 1);
        due("7 sun", x.count(6), 1);
        x.go();
        due("7 a fault", read("w1;r0,0,1;s5,5;x"), -1000115);
        due("7 all stays but the tape", x.count(8), 0);
        due("7 the gate stays", x.count(3), 1);
        due("7 the walkers stay", x.count(2), 1);
        due("7 the acts stay", x.undo(), 0);
        x.rule(2, 2);
        x.go();
        read(TWO);
        due("7 no act can be undone", x.undo(), STATE);
        due("7 all are at gate 0", x.count(3), 0);
        for (int what = 2; what <= 4; what++) {
            due("7 walker(0, " + what + ") anew", x.walker(0, what), 0);
        }
        due("7 rule", x.count(4), 0);
    }

    private static void promise8Fault() {
        fresh();
        due("8 before one", x.fault(), 0);
        read(TWO);
        due("8 none yet", x.fault(), 0);
        read("w0");
        due("8 fault 2", x.fault(), 2);
        read(TWO);
        due("8 it is the latest still", x.fault(), 2);
        read("w1,1,1,1,1,1,1,1,1");
        due("8 fault 3", x.fault(), 3);
        read("");
        due("8 fault 1", x.fault(), 1);
    }

    private static void dueFault(String text, int place, int number) {
        fresh();
        due("place in '" + text + "'", read(text), -1000100 - place);
        due("fault of '" + text + "'", x.fault(), number);
        due("no way by '" + text + "'", x.allThere(), STATE);
    }

    private static void faultsOfTexts() {
        String r = "w1;r0,0,1;";
        dueFault("", 0, 1);
        dueFault("w", 1, 1);
        dueFault("W1;", 0, 1);
        dueFault(" w1;", 0, 1);
        dueFault("r0,0,1;", 0, 1);
        dueFault("w;", 1, 1);
        dueFault("w,1;", 1, 1);
        dueFault("w1 ;", 2, 1);
        dueFault("w1,;", 3, 1);
        dueFault("w1r", 2, 1);
        dueFault("w1.", 2, 1);
        dueFault("w-1;", 1, 1);
        dueFault("w\u00e9", 1, 1);
        dueFault("w0;", 1, 2);
        dueFault("w10;", 1, 2);
        dueFault("w1,0;", 3, 2);
        dueFault("w0;r9", 1, 2);
        dueFault("w1,2,3,4,5,6,7,8,9;", 17, 3);
        dueFault("w1,2,3,4,5,6,7,8,0;", 17, 2);
        dueFault("w1,2,3,4,5,6,7,8,", 17, 1);
        dueFault("w1,2,3,4,5,6,7,8,;", 17, 1);
        dueFault("w1;", 3, 1);
        dueFault("w1;s1,1;", 3, 1);
        dueFault("w1;r", 4, 1);
        dueFault("w1;r4,0,1;", 4, 2);
        dueFault("w1;r0;0,1;", 5, 1);
        dueFault("w1;r0,31,1;", 6, 2);
        dueFault("w1;r0,30,0;", 9, 2);
        dueFault("w1;r0,30;", 8, 1);
        dueFault("w1;r0,0,1", 9, 1);
        dueFault("w1;r0,0,1,", 9, 1);
        // More than three figures side by side are no token: the fault is at the first of them.
        dueFault("w1;r0,0,1000;", 8, 1);
        dueFault("w3;r0,5,3009", 8, 1);
        dueFault("w1;r0,0,0001;", 8, 1);
        dueFault("w1;r0,0,100", 11, 1);
        dueFault("w0012;", 1, 1);
        dueFault("w1340", 1, 1);
        dueFault("w134", 1, 2);
        dueFault("w1,0002;", 3, 1);
        dueFault("w1,2,3,4,5,6,7,8,0009;", 17, 1);
        dueFault("w1;r0000,0,1;", 4, 1);
        dueFault("w1;r0,0000,1;", 6, 1);
        dueFault("1234", 0, 1);
        dueFault("w" + "0".repeat(118) + "1", 1, 1);
        dueFault(r + "1234", 10, 1);
        dueFault(r + "s0001,0;", 11, 1);
        dueFault(r + "s1,0000;", 13, 1);
        dueFault(r + "s1,4294967296;", 13, 1);
        dueFault(r + "x", 10, 1);
        dueFault(r + "w", 10, 1);
        dueFault(r + ";", 10, 1);
        dueFault(r + "1", 10, 1);
        dueFault(r + "s", 11, 1);
        dueFault(r + "s0,0;", 11, 2);
        dueFault(r + "s21,0;", 11, 2);
        dueFault(r + "s20;", 13, 1);
        dueFault(r + "s20,10;", 14, 2);
        dueFault(r + "s20,9", 15, 1);
        dueFault(r + "ss", 11, 1);
        String six = r + "s1,0;q1,0;p1,0;o1,0;l1,0;s1,0;";
        dueFault(six + "q", 40, 3);
        dueFault(six + "q0,99;", 40, 3);
        dueFault(six + "x", 40, 1);
        dueFault(six + ",", 40, 1);
    }

    private static void promise9Go() {
        fresh();
        due("9 no way", x.go(), STATE);
        told(TWO);
        due("9 go()", x.go(), 1);
        due("9 0 leaves when the last one comes", x.walker(0, 3), 14);
        due("9 1 leaves", x.walker(1, 3), 14);
        due("9 to the hut", x.go(), 2);
        due("9 0 leaves it as it comes", x.walker(0, 3), 29);
        due("9 1 too", x.walker(1, 3), 35);
        due("9 nobody rests there", x.walker(0, 4), 4);
        due("9 at the hut", x.go(), STATE);
        due("9 acts", x.count(7), 2);
        told(NOBODY);
        due("9 nobody goes", x.go(), 1);
    }

    private static void promise10Rule() {
        fresh();
        due("10 no way, ahead of BAD", x.rule(4, 0), STATE);
        told("w2,3;r1,4,50;s1,1;");
        due("10 as it was", x.rule(3, 30), 35);
        due("10 as it was then", x.rule(3, 30), 123);
        due("10 rule 4", x.rule(4, 0), BAD);
        due("10 rule -1", x.rule(-1, 0), BAD);
        due("10 m 31", x.rule(0, 31), BAD);
        due("10 m -1", x.rule(0, -1), BAD);
        due("10 rule", x.count(4), 3);
        due("10 m", x.count(5), 30);
        due("10 acts", x.count(7), 2);
    }

    private static void promise11Give() {
        fresh();
        due("11 no way", x.give(0, 1), BAD);
        told("w1;r0,0,1;s1,9;s1,9;s1,2;s1,1;");
        due("11 to itself", x.give(0, 0), BAD);
        due("11 no such taker", x.give(0, 4), BAD);
        due("11 no such giver", x.give(-1, 0), BAD);
        due("11 give(0, 1)", x.give(0, 1), 18);
        due("11 the giver has none", x.walker(0, 1), 0);
        due("11 give(2, 1)", x.give(2, 1), 20);
        due("11 above 20", x.give(3, 1), FULL);
        due("11 that stays", x.walker(3, 1), 1);
        due("11 none is given", x.give(0, 1), 20);
        due("11 acts", x.count(7), 3);
        due("11 undone", x.undo(), 2);
        due("11 undone", x.undo(), 1);
        due("11 2 has its sack again", x.walker(2, 1), 2);
        due("11 1 has less", x.walker(1, 1), 18);
    }

    private static void promise12Undo() {
        fresh();
        due("12 no way", x.undo(), STATE);
        told(TWO);
        due("12 no act", x.undo(), STATE);
        x.go();
        x.rule(2, 9);
        x.give(1, 0);
        x.go();
        due("12 a leg", x.undo(), 3);
        due("12 the gate", x.count(3), 1);
        due("12 minute", x.walker(0, 3), 14);
        due("12 tired", x.walker(0, 2), 0);
        due("12 a sack", x.undo(), 2);
        due("12 its sack", x.walker(1, 1), 8);
        due("12 0 has none", x.walker(0, 1), 0);
        due("12 a rule", x.undo(), 1);
        due("12 rule", x.count(4), 0);
        due("12 m", x.count(5), 0);
        due("12 the first leg", x.undo(), 0);
        due("12 gate 0", x.count(3), 0);
        due("12 minute 0", x.walker(1, 3), 0);
        due("12 rested 0", x.walker(0, 4), 0);
        due("12 none is left", x.undo(), STATE);
        for (int i = 1; i <= 25; i++) {
            x.rule(1, i);
        }
        due("12 24 at most", x.count(7), 24);
        for (int i = 23; i >= 0; i--) {
            due("12 undo to " + i, x.undo(), i);
        }
        due("12 the oldest is forgotten", x.undo(), STATE);
        due("12 m is what that left", x.count(5), 1);
    }

    private static void promise13Walker() {
        fresh();
        due("13 no way", x.walker(0, 0), BAD);
        told(TWO);
        int[] first = {5, 0, 0, 0, 0, 10};
        int[] second = {2, 8, 0, 0, 0, 14};
        int[] firstThen = {5, 0, 0, 14, 4, 15};
        for (int what = 0; what < 6; what++) {
            due("13 walker(0, " + what + ")", x.walker(0, what), first[what]);
            due("13 walker(1, " + what + ")", x.walker(1, what), second[what]);
        }
        due("13 no such walker", x.walker(2, 0), BAD);
        due("13 below 0", x.walker(-1, 0), BAD);
        due("13 no such what", x.walker(0, 6), BAD);
        due("13 what below 0", x.walker(0, -1), BAD);
        x.go();
        for (int what = 0; what < 6; what++) {
            due("13 walker(0, " + what + ") at gate 1", x.walker(0, what), firstThen[what]);
        }
        x.go();
        due("13 no leg is next", x.walker(0, 5), NONE);
        due("13 tired", x.walker(0, 2), 3);
        due("13 no such what there", x.walker(0, 6), BAD);
    }

    private static void promise14Leg() {
        fresh();
        due("14 no way", x.leg(0), BAD);
        told(TWO);
        due("14 leg(0)", x.leg(0), 2);
        due("14 leg(1)", x.leg(1), 3);
        due("14 leg(2)", x.leg(2), BAD);
        due("14 leg(-1)", x.leg(-1), BAD);
    }

    private static void promise15Mends() {
        fresh();
        int[][] dues = {{0, 0}, {1, 0}, {2, 2}, {9, 2}, {10, 6}, {20, 6}, {21, 4}, {999, 4}};
        for (int[] pair : dues) {
            due("15 mends(" + pair[0] + ")", x.mends(pair[0]), pair[1]);
        }
        due("15 mends(1000)", x.mends(1000), BAD);
        due("15 mends(-1)", x.mends(-1), BAD);
    }

    /** By each rule at one gate: 0 comes at 10 with 2 to mend, 1 comes at 14. */
    private static void restsByRules() {
        int[][] dues = {
            {0, 7, 14, 14, 4, 0},
            {1, 0, 14, 14, 4, 0},
            {1, 7, 21, 21, 11, 7},
            {2, 0, 10, 14, 0, 0},
            {2, 3, 13, 14, 3, 0},
            {2, 4, 14, 14, 4, 0},
            {2, 6, 16, 16, 6, 2},
            {3, 9, 10, 14, 0, 0},
        };
        for (int[] d : dues) {
            String by = "rule " + d[0] + ", m " + d[1] + ": ";
            told("w2,3;r" + d[0] + "," + d[1] + ",100;s5,0;o2,8;");
            x.go();
            due(by + "0 leaves", x.walker(0, 3), d[2]);
            due(by + "1 leaves", x.walker(1, 3), d[3]);
            due(by + "0 rested", x.walker(0, 4), d[4]);
            due(by + "1 rested", x.walker(1, 4), d[5]);
            due(by + "0 is tired", x.walker(0, 2), d[4] < 2 ? 2 : 0);
        }
    }

    private static void dueTired(String text, int walker, int want) {
        told(text);
        x.go();
        due("tired by " + text, x.walker(walker, 2), want);
    }

    private static void tiringByKinds() {
        dueTired("w3;r0,0,1;s1,0;", 0, 3);
        dueTired("w3;r0,0,1;s1,1;", 0, 3);
        dueTired("w3;r0,0,1;s1,9;", 0, 15);
        dueTired("w3;r0,0,1;q1,4;", 0, 9);
        dueTired("w3;r0,0,1;o1,9;", 0, 0);
        dueTired("w3;r0,0,1;l1,4;", 0, 12);
        dueTired("w3;r0,0,1;p1,4;", 0, 0);
        dueTired("w3;r0,0,1;p1,4;s9,0;", 0, 0);
        dueTired("w3;r0,0,1;s9,0;p1,4;", 1, 9);
        dueTired("w3;r0,0,1;p1,4;p1,4;", 1, 9);
        // The proud one comes second to the gate by rule 3 and tires; ahead of the slow one it does not.
        told("w3,2;r3,0,1;s9,0;p1,0;");
        x.go();
        x.go();
        due("the proud one begins the second leg ahead", x.walker(1, 2), 3);
        told("w1;r0,0,1;q1,0;q2,0;q1,9;");
        due("a quick one takes 1 at least", x.walker(0, 5), 1);
        due("a quick one takes 1 less", x.walker(1, 5), 1);
        due("a quick one with a sack", x.walker(2, 5), 2);
        told("w2;r0,0,1;s3,3;s3,4;o3,4;l3,4;p3,7;p3,8;");
        int[] minutes = {6, 8, 14, 14, 8, 10};
        for (int i = 0; i < minutes.length; i++) {
            due("minutes of " + i, x.walker(i, 5), minutes[i]);
        }
        // Tired 7 + 1 makes 8: a whole minute on each mile.
        told("w7,1,2;r3,0,1;s3,0;");
        x.go();
        due("tired 7", x.walker(0, 5), 3);
        x.go();
        due("tired 8", x.walker(0, 5), 8);
    }

    private static void promise16There() {
        fresh();
        due("16 no way", x.there(0, 0), BAD);
        told(TWO);
        for (int at = 0; at <= 2; at++) {
            due("16 there(0, 0)", x.there(0, 0), 29);
            due("16 there(0, 1)", x.there(0, 1), 4);
            due("16 there(0, 2)", x.there(0, 2), 3);
            due("16 there(1, 0)", x.there(1, 0), 35);
            due("16 there(1, 1)", x.there(1, 1), 0);
            due("16 there(1, 2)", x.there(1, 2), 0);
            due("16 nothing changes", x.count(3), at);
            x.go();
        }
        due("16 no such walker", x.there(2, 0), BAD);
        due("16 walker below 0", x.there(-1, 0), BAD);
        due("16 no such what", x.there(0, 3), BAD);
        due("16 what below 0", x.there(0, -1), BAD);
    }

    private static void promise17AllThere() {
        fresh();
        due("17 no way", x.allThere(), STATE);
        told(NOBODY);
        due("17 no walkers", x.allThere(), 0);
        told(TWO);
        due("17 allThere()", x.allThere(), 35);
        told(CHANGING);
        due("17 allThere()", x.allThere(), 216);
        x.go();
        due("17 from gate 1", x.allThere(), 216);
        x.rule(3, 0);
        due("17 all leave this gate as they do", x.allThere(), 216);
        x.go();
        due("17 at the hut", x.allThere(), 216);
    }

    private static void dueBest(String call, int[] got, int... want) {
        for (int i = 0; i < want.length; i++) {
            due(call + "(" + i + ")", got[i], want[i]);
        }
    }

    private static int[] soonest() {
        return new int[] {x.soonest(0), x.soonest(1), x.soonest(2)};
    }

    private static int[] fair() {
        return new int[] {x.fair(0), x.fair(1), x.fair(2)};
    }

    private static void promise18Soonest() {
        fresh();
        due("18 no way, ahead of BAD", x.soonest(3), STATE);
        told(NOBODY);
        dueBest("18 nobody: soonest", soonest(), 0, 0, 0);
        told(TWO);
        dueBest("18 soonest", soonest(), 0, 0, 35);
        due("18 what 3", x.soonest(3), BAD);
        due("18 what -1", x.soonest(-1), BAD);
        told(CHANGING);
        dueBest("18 soonest", soonest(), 2, 0, 207);
        due("18 the rule stays", x.count(4), 0);
        x.go();
        dueBest("18 from gate 1 on all rules are alike", soonest(), 0, 0, 216);
        // A lone lame one comes at 20, tired 16: a rest of 2 takes a minute off each of 9 miles.
        told("w4,9;r3,0,999;l1,4;");
        due("18 without a rest", x.allThere(), 20 + 9 * (1 + (16 + 8) / 8 + 3));
        dueBest("18 a short rest is quicker", soonest(), 1, 2, 22 + 9 * (1 + (14 + 8) / 8 + 3));
    }

    private static void promise19Loses() {
        fresh();
        due("19 no way", x.loses(0), BAD);
        told(TWO);
        due("19 loses(0)", x.loses(0), 4);
        due("19 loses(1)", x.loses(1), 0);
        due("19 loses(2)", x.loses(2), BAD);
        due("19 loses(-1)", x.loses(-1), BAD);
        told(CHANGING);
        due("19 loses(0)", x.loses(0), 0);
        due("19 loses(1)", x.loses(1), 9);
        x.rule(3, 0);
        due("19 by rule 3", x.loses(1), 0);
        // At gate 1 a steady one is tired 8 of 8 miles: a rest of 2 takes 1 minute off each of 9 miles.
        told("w8,9;r1,2,999;s3,0;");
        due("19 below 0", x.loses(0), 2 - 9);
    }

    private static void promise20Fair() {
        fresh();
        due("20 no way, ahead of BAD", x.fair(3), STATE);
        told(NOBODY);
        due("20 no walkers", x.fair(0), NONE);
        due("20 no walkers", x.fair(2), NONE);
        due("20 BAD ahead of NONE", x.fair(3), BAD);
        told(TWO);
        dueBest("20 fair", fair(), 2, 0, 0);
        due("20 what -1", x.fair(-1), BAD);
        told("w8,9;r3,0,999;s3,0;");
        dueBest("20 all win by resting", fair(), 1, 2, -7);
        dueBest("20 soonest, too", soonest(), 1, 2, 24 + 2 + 27);
    }

    private static int[] sacks(int n) {
        int[] all = new int[n + 1];
        for (int i = -1; i < n; i++) {
            all[i + 1] = x.sacks(i);
        }
        return all;
    }

    /** As many legs and walkers as there can be, all alike. */
    private static void mostOfAll() {
        told("w1,1,1,1,1,1,1,1;r0,0,80;o2,0;o2,0;o2,0;o2,0;o2,0;o2,0;");
        due("16 most: there(5, 0)", x.there(5, 0), 40);
        due("17 most: allThere()", x.allThere(), 40);
        dueBest("18 most: soonest", soonest(), 0, 0, 40);
        dueBest("20 most: fair", fair(), 0, 0, 0);
        dueBest("21 most: sacks", sacks(6), 40, 0, 1, 2, 3, 4, 5);
        due("22 most: parties(0)", x.parties(0), 0);
        due("22 most: parties(1)", x.parties(1), 40);
        due("23 most: turn()", x.turn(), 8);
        x.row(4, 1, 8);
        for (int i = 0; i < 8; i++) {
            x.set(4, i, 5 * (i + 1));
        }
        due("24 most: fits", x.fits(5, 4, 0, 8, 0), 4);
        due("24 most: the first", x.fits(5, 4, 0, 8, 1), 0);
        x.set(4, 7, 41);
        due("24 most: the last minute", x.fits(5, 4, 0, 8, 0), 0);
        for (int i = 0; i < 8; i++) {
            due("9 most: go()", x.go(), i + 1);
        }
        due("13 most: walker(5, 3)", x.walker(5, 3), 40);
        due("7 nobody after many", read(NOBODY), 0);
        due("17 nobody", x.allThere(), 0);
    }

    private static void promise21Sacks() {
        fresh();
        due("21 no way, ahead of BAD", x.sacks(-2), STATE);
        told(NOBODY);
        due("21 no walkers", x.sacks(-1), 0);
        due("21 no such walker", x.sacks(0), BAD);
        told(TWO);
        dueBest("21 each its own", sacks(2), 35, 0, 1);
        told("w2,3;r0,0,100;s5,8;o2,0;");
        due("21 as it is", x.allThere(), 38);
        dueBest("21 swapped", sacks(2), 35, 1, 0);
        due("21 nothing changes", x.walker(0, 1), 8);
        due("21 walker 2", x.sacks(2), BAD);
        due("21 walker -2", x.sacks(-2), BAD);
        // The last one alone says when all are there: it wants no sack, whoever has the others.
        told("w2;r0,0,100;s5,0;s1,0;s20,8;");
        dueBest("21 of several the first", sacks(3), 40, 0, 2, 1);
        told("w2;r0,0,100;s5,0;s1,8;s20,8;");
        dueBest("21 of several the first", sacks(3), 40, 1, 2, 0);
        told("w2;r0,0,100;o17,8;o16,4;o15,0;");
        dueBest("21 the last order of all", sacks(3), 40, 2, 1, 0);
        told("w2;r0,0,100;o17,8;o17,8;o16,4;o16,4;o15,0;o15,0;");
        dueBest("21 the heaviest to the quickest", sacks(6), 40, 4, 5, 2, 3, 0, 1);
    }

    private static void promise22Parties() {
        fresh();
        due("22 no way, ahead of BAD", x.parties(2), STATE);
        told(NOBODY);
        due("22 no walkers", x.parties(0), 0);
        due("22 no walkers", x.parties(1), 0);
        told(TWO);
        due("22 one party", x.parties(0), 0);
        due("22 all there", x.parties(1), 35);
        due("22 what 2", x.parties(2), BAD);
        due("22 what -1", x.parties(-1), BAD);
        told(CHANGING);
        due("22 two parties", x.parties(0), 2);
        due("22 all there", x.parties(1), 207);
        told("w9,9;r0,0,999;s7,9;o7,0;");
        due("22 without walker 0", x.parties(0), 2);
        told("w9,9;r0,0,999;o7,0;s1,0;s7,9;");
        due("22 the least set", x.parties(0), 4);
        // Behind walker 0 the proud one tires; in a party of its own it does not.
        told("w8,9;r3,0,999;s3,0;p9,0;");
        due("22 together", x.allThere(), 72 + 90);
        due("22 ahead of its own party", x.parties(0), 2);
        due("22 all there", x.parties(1), 72 + 81);
    }

    private static void dueTurn(String text, int want) {
        told(text);
        due("23 turn() of " + text, x.turn(), want);
    }

    private static void promise23Turn() {
        fresh();
        due("23 no way", x.turn(), STATE);
        dueTurn(NOBODY, 2);
        dueTurn("w9,9;r0,0,621;o7,0;s7,9;", 2);
        dueTurn("w9,9;r0,0,620;o7,0;s7,9;", 1);
        dueTurn("w9,9;r0,0,216;o7,0;s7,9;", 1);
        dueTurn("w9,9;r0,0,215;o7,0;s7,9;", 0);
        dueTurn("w9,9;r0,0,1;o7,0;s7,9;", 0);
        told("w9,9;r0,0,215;o7,0;s7,9;");
        x.go();
        due("23 too late", x.turn(), NONE);
        told("w9,9;r0,0,216;o7,0;s7,9;");
        x.go();
        due("23 this gate", x.turn(), 1);
        x.go();
        due("23 the hut is too far", x.turn(), NONE);
        // A proud one alone is ahead on the way back, too.
        dueTurn("w9,9;r0,0,180;p5,0;", 2);
        dueTurn("w9,9;r0,0,179;p5,0;", 1);
        // It rests at the gate by rule 1 ahead of turning, but not at the hut.
        dueTurn("w2,2;r1,30,50;o2,0;", 1);
        dueTurn("w2,2;r1,30,49;o2,0;", 0);
        dueTurn("w2,2;r1,30,70;o2,0;", 2);
        dueTurn("w2,2;r1,30,69;o2,0;", 1);
    }

    private static void promise24Fits() {
        fresh();
        due("24 no way", x.fits(0, 0, 0, 1, 0), BAD);
        told(TWO);
        due("24 a missing row", x.fits(0, 0, 0, 1, 0), NULL);
        x.row(0, 2, 3);
        due("24 no such walker", x.fits(2, 0, 0, 1, 0), BAD);
        due("24 walker -1", x.fits(-1, 0, 0, 1, 0), BAD);
        due("24 no such row", x.fits(0, 8, 0, 1, 0), BAD);
        due("24 row -1", x.fits(0, -1, 0, 1, 0), BAD);
        due("24 n 0", x.fits(0, 0, 0, 0, 0), BAD);
        due("24 n 9", x.fits(0, 0, 0, 9, 0), BAD);
        due("24 what 2", x.fits(0, 0, 0, 1, 2), BAD);
        due("24 what -1", x.fits(0, 0, 0, 1, -1), BAD);
        due("24 too many gates, ahead of NULL", x.fits(0, 1, 0, 3, 0), STATE);
        due("24 no such place", x.fits(0, 0, 2, 2, 0), PLACE);
        due("24 place -1", x.fits(0, 0, -1, 2, 0), PLACE);
        due("24 place MOST", x.fits(0, 0, MOST, 2, 0), PLACE);
        int[][] dues = {{25, 2, 62}, {29, 3, 0}, {30, 2, 32}, {59, 1, 61}, {55, 2, 57}, {60, 0, NONE}, {24, 0, NONE}};
        x.set(0, 1, 10);
        for (int[] d : dues) {
            x.set(0, 2, d[0]);
            due("24 how many for " + d[0], x.fits(0, 0, 1, 2, 0), d[1]);
            due("24 the first for " + d[0], x.fits(0, 0, 1, 2, 1), d[2]);
        }
        due("24 by one gate all fit", x.fits(0, 0, 1, 1, 0), 64);
        due("24 the first", x.fits(0, 0, 1, 1, 1), 0);
        due("24 not when another one comes", x.fits(1, 0, 1, 1, 0), 0);
        x.go();
        x.set(0, 0, 29);
        due("24 from gate 1 on", x.fits(0, 0, 0, 1, 0), 64);
        due("24 one gate is left", x.fits(0, 0, 0, 2, 0), STATE);
        x.row(1, 0, 1);
        x.set(1, 0, 29);
        due("24 a row of bytes", x.fits(0, 1, 0, 1, 0), 64);
    }

    private static void promise25Image() {
        fresh();
        due("25 BAD ahead of STATE", x.image(2), BAD);
        due("25 image(-1)", x.image(-1), BAD);
        due("25 no way", x.image(0), STATE);
        told(TWO);
        due("25 image(0)", x.image(0), 1);
        x.go();
        due("25 image(1)", x.image(1), 1);
        due("25 acts stay", x.undo(), 0);
    }

    private static void promise26Restore() {
        fresh();
        due("26 restore(2)", x.restore(2), BAD);
        due("26 restore(-1)", x.restore(-1), BAD);
        due("26 none was kept", x.restore(0), STATE);
        told(TWO);
        x.image(0);
        x.go();
        x.rule(1, 5);
        x.image(1);
        x.give(1, 0);
        due("26 restore(1)", x.restore(1), 1);
        due("26 no act", x.undo(), STATE);
        due("26 gate", x.count(3), 1);
        due("26 rule", x.count(4), 1);
        due("26 sack", x.walker(1, 1), 8);
        due("26 minute", x.walker(1, 3), 14);
        x.go();
        due("26 restore(1) again", x.restore(1), 1);
        due("26 the image is as it was kept", x.count(3), 1);
        read("w5;r3,3,3;l5,5;");
        due("26 another way's", x.restore(0), 1);
        due("26 its legs", x.count(1), 2);
        due("26 leg(0)", x.leg(0), 2);
        due("26 its walkers", x.count(2), 2);
        due("26 its sun", x.count(6), 100);
        due("26 its m", x.count(5), 0);
        due("26 its kinds", x.kind(1), 4);
        due("26 its minutes", x.walker(1, 3), 0);
    }

    private static void promise27Kind() {
        told(EVERY_KIND);
        for (int i = 0; i < 5; i++) {
            due("27 kind(" + i + ")", x.kind(i), i + 1);
        }
        due("27 kind(5)", x.kind(5), BAD);
        due("27 kind(-1)", x.kind(-1), BAD);
    }

    private static void promise28As() {
        told(EVERY_KIND);
        String[] such = {"110000", "111000", "110100", "100010", "100011"};
        for (int i = 0; i < 5; i++) {
            for (int kind = 0; kind < 6; kind++) {
                boolean is = such[i].charAt(kind) == '1';
                due("28 as(" + i + ", " + kind + ")", x.as(i, kind), is ? i : KIND);
                due("28 status()", x.status(), is ? 0 : 3);
            }
        }
        due("28 as(0, 6)", x.as(0, 6), BAD);
        due("28 as(0, -1)", x.as(0, -1), BAD);
        due("28 as(5, 0)", x.as(5, 0), BAD);
        due("28 as(-1, 0)", x.as(-1, 0), BAD);
    }

    private static void dueAsk(int walker, int what, int want, int... bodies) {
        String call = "29 ask(" + walker + ", " + what + ")";
        due(call, x.ask(walker, what), want);
        for (int i = 0; i < bodies.length; i++) {
            due("30 trace(" + i + ") of " + call, x.trace(i), bodies[i]);
        }
        due("30 the end of " + call, x.trace(bodies.length), NONE);
    }

    private static void promise29And30AskAndTrace() {
        told(EVERY_KIND);
        x.go();
        dueAsk(0, 0, 11, 11, 10, 21, 20);
        dueAsk(0, 1, 8, 21, 20);
        dueAsk(1, 0, -22, 12, 11, 10, 24, 21, 20);
        dueAsk(1, 1, 18, 24, 21, 20);
        dueAsk(2, 0, -985, 11, 10, 22, 21, 20);
        dueAsk(2, 1, -990, 22, 21, 20);
        dueAsk(3, 0, -94, 13, 10);
        dueAsk(3, 1, 97, 23, 20, 13, 10);
        dueAsk(4, 1, 190, 23, 20, 14, 13, 10);
        dueAsk(4, 0, -186, 14, 13, 10);
        due("29 no such walker", x.ask(5, 0), BAD);
        due("29 walker -1", x.ask(-1, 0), BAD);
        due("29 no such ask", x.ask(0, 2), BAD);
        due("29 ask -1", x.ask(0, -1), BAD);
        due("30 what is refused changes nothing", x.trace(0), 14);
        due("30 trace(-1)", x.trace(-1), NONE);
        due("30 trace(16)", x.trace(16), NONE);
        due("30 trace(MOST)", x.trace(MOST), NONE);
    }

    private static void promise31Count() {
        told("w9,8,7;r2,13,456;s1,1;q2,2;");
        x.row(3, 1, 4);
        x.row(5, 0, 0);
        x.go();
        x.go();
        x.rule(1, 14);
        x.feed(0);
        int[] counts = {2, 3, 2, 2, 1, 14, 456, 3, 1};
        for (int what = 0; what < counts.length; what++) {
            due("31 count(" + what + ")", x.count(what), counts[what]);
        }
        due("31 count(9)", x.count(9), BAD);
        due("31 count(-1)", x.count(-1), BAD);
    }

    private static void promise32Status() {
        told(TWO);
        due("32 there was none", x.status(), 0);
        x.row(0, 0, -1);
        due("32 SIZE", x.status(), 4);
        x.row(8, 0, -1);
        x.drop(8);
        x.set(9, 0, 0);
        x.copy(9, 0, 0, 0, 0);
        x.fits(0, 0, 0, 9, 0);
        x.fits(0, 0, 0, 3, 0);
        x.as(0, 7);
        x.go();
        x.feed('w');
        x.way();
        x.ask(0, 0);
        due("32 BAD, STATE and calls without rows change nothing", x.status(), 4);
        x.row(0, 0, 3);
        due("32 row: none", x.status(), 0);
        x.set(0, 3, 1);
        due("32 PLACE", x.status(), 2);
        x.set(0, 2, 1);
        due("32 set: none", x.status(), 0);
        x.set(1, 0, 1);
        due("32 NULL", x.status(), 1);
        x.copy(0, 0, 0, 1, 1);
        due("32 copy: none", x.status(), 0);
        x.row(1, 1, 3);
        x.copy(0, 0, 1, 0, 1);
        due("32 STORE", x.status(), 5);
        x.drop(1);
        due("32 drop: none", x.status(), 0);
        x.as(0, 2);
        due("32 KIND", x.status(), 3);
        x.as(0, 1);
        due("32 as: none", x.status(), 0);
        x.fits(0, 7, 0, 1, 0);
        due("32 fits: NULL", x.status(), 1);
        due("32 fits: NONE", x.fits(0, 0, 0, 1, 1), NONE);
        due("32 fits: none", x.status(), 0);
    }
}
