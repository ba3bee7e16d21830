/** Section 1 of the document on ROWS, and promises 2 to 5: each sentence that names an edge. */
public final class RowEdgesTest extends Edges {
    private static final int BYTES = 0, SHORTS = 1, INTS = 2;

    public static void main(String[] args) {
        RowEdgesTest test = new RowEdgesTest();
        test.rowsGoFrom0To7();
        test.rowsAreMissingAtFirst();
        test.lanesGoFrom0To2();
        test.rowsHave0To40Items();
        test.fewerThanNoneIsSize();
        test.aRowStandsInPlaceOfWhatIsThere();
        test.itemsAre0AtFirst();
        test.itemsAreCutToTheLane();
        test.whatIsCutIsKept();
        test.placesGoFrom0ToTheLast();
        test.aRowWithoutItemsHasNoPlace();
        test.copyWantsTwoRows();
        test.copyOfAMissingRow();
        test.copyOfTwoLanes();
        test.copyUpToTheEnds();
        test.copyOfNone();
        test.copyNearTheEndsOfAnInt();
        test.copyTakesItemsAsTheyWereAhead();
        test.copyOfAWholeRow();
        test.dropTellsHowManyItems();
        test.dropOfAMissingRow();
        test.countOfRows();
        test.check.end();
    }

    /** A lone steady one with pace v on a leg of 1 mile comes to the hut in minute v (1 to 20): so an item is seen. */
    private boolean holds(int row, int i, int v) {
        int read = read("w1;r3,0,1;s" + v + ",0;");
        return read == 1 && x.fits(0, row, i, 1, 0) == 64;
    }

    private void dueItems(String told, int row, int... items) {
        for (int i = 0; i < items.length; i++) {
            due(told + ": item " + i + " is " + items[i], holds(row, i, items[i]) ? 1 : 0, 1);
        }
    }

    private void fill(int row, int lane, int... items) {
        x.row(row, lane, items.length);
        for (int i = 0; i < items.length; i++) {
            x.set(row, i, items[i]);
        }
    }

    /** "ROWS 0 .. 7", "BAD: ROW". */
    private void rowsGoFrom0To7() {
        fresh();
        for (int row : new int[] {LEAST, -8, -1, 8, 9, 256, MOST}) {
            due("row(" + row + ", 0, 1)", x.row(row, 0, 1), BAD);
            due("set(" + row + ", 0, 0)", x.set(row, 0, 0), BAD);
            due("copy(" + row + ", 0, 0, 0, 0)", x.copy(row, 0, 0, 0, 0), BAD);
            due("copy(0, 0, " + row + ", 0, 0)", x.copy(0, 0, row, 0, 0), BAD);
            due("drop(" + row + ")", x.drop(row), BAD);
        }
        for (int row = 0; row <= 7; row++) {
            due("row(" + row + ", 2, 40)", x.row(row, INTS, 40), 40);
            due("set of row " + row, x.set(row, 39, -row), -row);
        }
    }

    /** "are missing (at first)", "NULL (a ROW that is missing)". */
    private void rowsAreMissingAtFirst() {
        fresh();
        for (int row = 0; row <= 7; row++) {
            due("set of row " + row + " at first", x.set(row, 0, 0), NULL);
            due("copy of row " + row + " at first", x.copy(row, 0, row, 0, 0), NULL);
            due("drop of row " + row + " at first", x.drop(row), NULL);
        }
        due("a missing row has no place either: NULL is first", x.set(7, -1, 0), NULL);
        due("count(0)", x.count(0), 0);
    }

    /** "a LANE (0 bytes, 1 shorts, 2 ints)", "BAD: LANE". */
    private void lanesGoFrom0To2() {
        fresh();
        for (int lane : new int[] {LEAST, -1, 3, 4, MOST}) {
            due("row(0, " + lane + ", 1)", x.row(0, lane, 1), BAD);
        }
        due("no row came of it", x.count(0), 0);
        for (int lane = 0; lane <= 2; lane++) {
            due("row(0, " + lane + ", 1)", x.row(0, lane, 1), 1);
        }
    }

    /** "0 to 40 ITEMS", "BAD: n above 40". */
    private void rowsHave0To40Items() {
        fresh();
        for (int lane = 0; lane <= 2; lane++) {
            for (int n : new int[] {0, 1, 39, 40}) {
                due("row(1, " + lane + ", " + n + ")", x.row(1, lane, n), n);
                due("place " + n + " is none", x.set(1, n, 1), PLACE);
                if (n > 0) {
                    due("place " + (n - 1) + " is the last", x.set(1, n - 1, 1), 1);
                }
            }
            for (int n : new int[] {41, 42, 1000, MOST}) {
                due("row(1, " + lane + ", " + n + ")", x.row(1, lane, n), BAD);
            }
            due("40 items are left", x.drop(1), 40);
        }
    }

    /** "SIZE (fewer than none)", behind BAD. */
    private void fewerThanNoneIsSize() {
        fresh();
        for (int n : new int[] {-1, -2, -40, LEAST}) {
            due("row(0, 0, " + n + ")", x.row(0, BYTES, n), SIZE);
            due("status()", x.status(), 4);
            due("row(8, 0, " + n + ")", x.row(8, BYTES, n), BAD);
            due("row(-1, 0, " + n + ")", x.row(-1, BYTES, n), BAD);
            due("row(0, 3, " + n + ")", x.row(0, 3, n), BAD);
            due("row(0, -1, " + n + ")", x.row(0, -1, n), BAD);
        }
        due("the row is missing still", x.drop(0), NULL);
        fill(0, SHORTS, 5, 6);
        due("row(0, 0, -1)", x.row(0, BYTES, -1), SIZE);
        due("row(0, 0, 41)", x.row(0, BYTES, 41), BAD);
        due("the lane is as it was", x.set(0, 1, 300), 300);
        dueItems("found and refused, the row stays", 0, 5);
        due("the size, too", x.drop(0), 2);
    }

    /** "in place of what is there: n". */
    private void aRowStandsInPlaceOfWhatIsThere() {
        fresh();
        x.row(3, INTS, 40);
        due("fewer items of another lane", x.row(3, BYTES, 2), 2);
        due("the lane is other", x.set(3, 1, 128), -128);
        due("the places are other", x.set(3, 2, 0), PLACE);
        due("one row it is", x.count(0), 1);
        due("none", x.row(3, BYTES, 0), 0);
        due("one row it is still", x.count(0), 1);
        due("it has none", x.drop(3), 0);
    }

    /** "ITEMS, 0 at first": what was there is gone, at every place, whichever size the row had between. */
    private void itemsAre0AtFirst() {
        int[] sevens = new int[40];
        java.util.Arrays.fill(sevens, 7);
        fresh();
        fill(2, INTS, sevens);
        read("w1;r3,0,1;s7,0;");
        due("place 0 has 7", x.fits(0, 2, 0, 1, 0), 64);
        due("place 39 has 7", x.fits(0, 2, 39, 1, 0), 64);
        x.row(2, INTS, 1);
        x.row(2, INTS, 40);
        for (int i = 0; i < 40; i++) {
            due("place " + i + " has 7 no more", x.fits(0, 2, i, 1, 0), 0);
        }
        x.set(2, 5, 7);
        x.drop(2);
        x.row(2, INTS, 40);
        due("nor has it behind a drop", x.fits(0, 2, 5, 1, 0), 0);
        for (int v = 1; v <= 4; v++) {
            due("none is " + v, holds(2, 0, v) || holds(2, 39, v) ? 1 : 0, 0);
        }
    }

    /** "its lowest bits, as many as the LANE has: what it is then". */
    private void itemsAreCutToTheLane() {
        fresh();
        x.row(BYTES, BYTES, 1);
        x.row(SHORTS, SHORTS, 1);
        x.row(INTS, INTS, 1);
        int[][] dues = {
            {0, 0, 0}, {1, 1, 1}, {-1, -1, -1},
            {127, 127, 127}, {128, -128, 128}, {255, -1, 255}, {256, 0, 256}, {257, 1, 257},
            {-128, -128, -128}, {-129, 127, -129}, {-256, 0, -256}, {-257, -1, -257},
            {32767, -1, 32767}, {32768, 0, -32768}, {65535, -1, -1}, {65536, 0, 0}, {65537, 1, 1},
            {-32768, 0, -32768}, {-32769, -1, 32767}, {-65536, 0, 0}, {-65537, -1, -1},
            {MOST, -1, -1}, {LEAST, 0, 0}, {MOST - 127, -128, -128}, {LEAST + 127, 127, 127},
        };
        for (int[] d : dues) {
            due("the byte of " + d[0], x.set(BYTES, 0, d[0]), d[1]);
            due("the short of " + d[0], x.set(SHORTS, 0, d[0]), d[2]);
            due("the int of " + d[0], x.set(INTS, 0, d[0]), d[0]);
        }
    }

    /** What the item "is then" is what stays, not what was given. */
    private void whatIsCutIsKept() {
        fresh();
        x.row(0, BYTES, 1);
        x.set(0, 0, 256 + 9);
        dueItems("the byte of 265", 0, 9);
        x.row(1, SHORTS, 1);
        x.set(1, 0, 65536 + 9);
        dueItems("the short of 65545", 1, 9);
        x.row(2, INTS, 1);
        x.set(2, 0, 65536 + 9);
        due("the int of 65545 is not 9", holds(2, 0, 9) ? 1 : 0, 0);
        x.set(2, 0, 9);
        due("the int of 9 is", holds(2, 0, 9) ? 1 : 0, 1);
    }

    /** "PLACE (no such place of a ROW)". */
    private void placesGoFrom0ToTheLast() {
        for (int size : new int[] {1, 2, 39, 40}) {
            fresh();
            x.row(4, SHORTS, size);
            due("place 0 of " + size, x.set(4, 0, 3), 3);
            due("the last of " + size, x.set(4, size - 1, 4), 4);
            for (int i : new int[] {LEAST, -1, size, size + 1, 40, MOST}) {
                due("place " + i + " of " + size, x.set(4, i, 5), PLACE);
                due("status()", x.status(), 2);
            }
            dueItems("what was found left it", 4, size == 1 ? 4 : 3);
        }
    }

    private void aRowWithoutItemsHasNoPlace() {
        fresh();
        due("row(0, 0, 0)", x.row(0, BYTES, 0), 0);
        due("it is not missing", x.count(0), 1);
        due("set(0, 0, 0)", x.set(0, 0, 0), PLACE);
        due("copy of none within it", x.copy(0, 0, 0, 0, 0), 0);
        due("copy of one within it", x.copy(0, 0, 0, 0, 1), PLACE);
        due("copy of none behind it", x.copy(0, 1, 0, 0, 0), PLACE);
        due("drop(0)", x.drop(0), 0);
        due("then it is missing", x.set(0, 0, 0), NULL);
    }

    /** "BAD: ROWS", ahead of every finding. */
    private void copyWantsTwoRows() {
        fresh();
        due("a is none, b is missing", x.copy(-1, 0, 0, 0, 0), BAD);
        due("b is none, a is missing", x.copy(0, 0, 8, 0, 0), BAD);
        due("none is", x.copy(8, -1, -1, -1, -1), BAD);
        due("status()", x.status(), 0);
        x.row(0, BYTES, 1);
        x.row(7, BYTES, 1);
        due("b is none, no such place", x.copy(0, 5, 8, 5, 5), BAD);
        due("0 to 7", x.copy(0, 0, 7, 0, 1), 1);
        due("7 to 0", x.copy(7, 0, 0, 0, 1), 1);
    }

    /** NULL ahead of STORE and PLACE, whichever of both is missing. */
    private void copyOfAMissingRow() {
        fresh();
        x.row(0, BYTES, 3);
        due("b is missing", x.copy(0, 0, 1, 0, 1), NULL);
        due("a is missing", x.copy(1, 0, 0, 0, 1), NULL);
        due("both are missing", x.copy(1, 0, 2, 0, 1), NULL);
        due("nothing is copied, still", x.copy(0, 0, 1, 0, 0), NULL);
        due("no such place, still", x.copy(0, 9, 1, 0, 1), NULL);
        due("n below 0, still", x.copy(1, 0, 0, 0, -1), NULL);
        due("status()", x.status(), 1);
        x.row(1, INTS, 3);
        x.drop(1);
        due("dropped: its lane is gone", x.copy(0, 0, 1, 0, 1), NULL);
    }

    /** "STORE (ROWS of two LANES)" ahead of PLACE, and of nothing, too. */
    private void copyOfTwoLanes() {
        fresh();
        for (int lane = 0; lane <= 2; lane++) {
            x.row(lane, lane, 3);
        }
        for (int a = 0; a <= 2; a++) {
            for (int b = 0; b <= 2; b++) {
                int store = a == b ? 1 : STORE;
                due("a row of lane " + a + " to one of " + b, x.copy(a, 0, b, 1, 1), store);
                due("none of lane " + a + " to one of " + b, x.copy(a, 0, b, 0, 0), a == b ? 0 : STORE);
                due("no place of lane " + a + " to one of " + b, x.copy(a, 4, b, 0, 1), a == b ? PLACE : STORE);
                due("-1 of lane " + a + " to one of " + b, x.copy(a, 0, b, 0, -1), a == b ? PLACE : STORE);
            }
        }
        x.copy(0, 0, 1, 0, 0);
        due("status()", x.status(), 5);
    }

    /** "PLACE (i, j, n below 0, or beyond an end)". */
    private void copyUpToTheEnds() {
        fresh();
        x.row(0, INTS, 5);
        x.row(1, INTS, 3);
        due("up to both ends", x.copy(0, 2, 1, 0, 3), 3);
        due("up to the end of a", x.copy(0, 4, 1, 1, 1), 1);
        due("up to the end of b", x.copy(0, 0, 1, 2, 1), 1);
        due("one beyond the end of a", x.copy(1, 1, 0, 0, 3), PLACE);
        due("one beyond the end of b", x.copy(0, 0, 1, 1, 3), PLACE);
        due("a is too short", x.copy(1, 0, 0, 0, 4), PLACE);
        due("b is too short", x.copy(0, 0, 1, 0, 4), PLACE);
        due("i is -1", x.copy(0, -1, 1, 0, 1), PLACE);
        due("j is -1", x.copy(0, 0, 1, -1, 1), PLACE);
        due("n is -1", x.copy(0, 1, 1, 1, -1), PLACE);
        due("i is behind the end", x.copy(0, 5, 1, 0, 1), PLACE);
        due("j is behind the end", x.copy(0, 0, 1, 3, 1), PLACE);
        due("status()", x.status(), 2);
    }

    private void copyOfNone() {
        fresh();
        x.row(0, INTS, 5);
        x.row(1, INTS, 3);
        due("of none from the beginning", x.copy(0, 0, 1, 0, 0), 0);
        due("of none at both ends", x.copy(0, 5, 1, 3, 0), 0);
        due("of none behind the end of a", x.copy(0, 6, 1, 3, 0), PLACE);
        due("of none behind the end of b", x.copy(0, 5, 1, 4, 0), PLACE);
        due("of none ahead of a", x.copy(0, -1, 1, 0, 0), PLACE);
        due("of none ahead of b", x.copy(0, 0, 1, -1, 0), PLACE);
    }

    /** Sums of a place and a count that wrap around are beyond an end, too. */
    private void copyNearTheEndsOfAnInt() {
        fresh();
        x.row(0, BYTES, 40);
        x.row(1, BYTES, 40);
        int[] far = {LEAST, LEAST + 1, LEAST + 40, -40, -1, 41, MOST - 40, MOST - 1, MOST};
        for (int bad : far) {
            due("i is " + bad, x.copy(0, bad, 1, 0, 1), PLACE);
            due("j is " + bad, x.copy(0, 0, 1, bad, 1), PLACE);
            due("n is " + bad, x.copy(0, 0, 1, 0, bad), PLACE);
            due("n is " + bad + ", i is 1", x.copy(0, 1, 1, 0, bad), PLACE);
            due("n is " + bad + ", j is 1", x.copy(0, 0, 1, 1, bad), PLACE);
            due("n is " + bad + ", i is 40", x.copy(0, 40, 1, 0, bad), PLACE);
            due("i and n are " + bad, x.copy(0, bad, 1, 0, bad), PLACE);
            due("j and n are " + bad, x.copy(0, 0, 1, bad, bad), PLACE);
            due("all are " + bad, x.copy(0, bad, 1, bad, bad), PLACE);
            due("none from " + bad, x.copy(0, bad, 1, 0, 0), PLACE);
            due("none to " + bad, x.copy(0, 0, 1, bad, 0), PLACE);
        }
    }

    /** "n ITEMS of a from i on come to b from j on, as they were ahead". */
    private void copyTakesItemsAsTheyWereAhead() {
        fresh();
        fill(0, BYTES, 1, 2, 3, 4, 5);
        due("up by one", x.copy(0, 0, 0, 1, 4), 4);
        dueItems("up by one", 0, 1, 1, 2, 3, 4);
        fresh();
        fill(0, BYTES, 1, 2, 3, 4, 5);
        due("down by one", x.copy(0, 1, 0, 0, 4), 4);
        dueItems("down by one", 0, 2, 3, 4, 5, 5);
        fresh();
        fill(0, INTS, 1, 2, 3, 4, 5);
        due("onto itself", x.copy(0, 0, 0, 0, 5), 5);
        dueItems("onto itself", 0, 1, 2, 3, 4, 5);
        fresh();
        fill(0, SHORTS, 1, 2, 3, 4, 5);
        fill(1, SHORTS, 11, 12, 13, 14);
        due("two to the end of another", x.copy(0, 1, 1, 2, 2), 2);
        dueItems("two to the end of another", 1, 11, 12, 2, 3);
        fresh();
        fill(0, SHORTS, 1, 2, 3);
        fill(1, SHORTS, 11, 12, 13);
        due("none", x.copy(0, 0, 1, 0, 0), 0);
        due("beyond", x.copy(0, 1, 1, 0, 3), PLACE);
        dueItems("none, or found", 1, 11, 12, 13);
        x.copy(0, 0, 1, 0, 1);
        x.set(0, 0, 9);
        dueItems("they are two rows still", 1, 1);
    }

    private void copyOfAWholeRow() {
        fresh();
        x.row(0, INTS, 40);
        x.row(1, INTS, 40);
        x.set(0, 0, 3);
        x.set(0, 39, 4);
        due("all 40", x.copy(0, 0, 1, 0, 40), 40);
        due("the first", holds(1, 0, 3) ? 1 : 0, 1);
        due("the last", holds(1, 39, 4) ? 1 : 0, 1);
        due("41 of them", x.copy(0, 0, 1, 0, 41), PLACE);
    }

    /** "how many ITEMS it had". */
    private void dropTellsHowManyItems() {
        fresh();
        for (int n : new int[] {0, 1, 39, 40}) {
            x.row(6, SHORTS, n);
            due("drop of " + n, x.drop(6), n);
            due("it is missing from now on", x.drop(6), NULL);
        }
        due("a row again", x.row(6, BYTES, 2), 2);
        due("it has a place", x.set(6, 1, 1), 1);
    }

    /** "BAD; NULL". */
    private void dropOfAMissingRow() {
        fresh();
        x.row(0, BYTES, 3);
        due("drop(0)", x.drop(0), 3);
        due("drop(0) again", x.drop(0), NULL);
        due("status()", x.status(), 1);
        due("drop(8)", x.drop(8), BAD);
        due("drop(-1)", x.drop(-1), BAD);
        due("status() stays", x.status(), 1);
    }

    /** "How many: 0 ROWS": none, all eight, and those without items. */
    private void countOfRows() {
        fresh();
        for (int row = 0; row <= 7; row++) {
            due("count(0)", x.count(0), row);
            x.row(row, row % 3, row % 2 * 40);
        }
        due("all eight", x.count(0), 8);
        x.row(3, BYTES, 3);
        due("in place of one", x.count(0), 8);
        x.row(8, BYTES, 3);
        x.row(3, BYTES, -1);
        due("refused and found", x.count(0), 8);
        for (int row = 7; row >= 0; row--) {
            x.drop(row);
            due("count(0) then", x.count(0), row);
        }
    }
}
