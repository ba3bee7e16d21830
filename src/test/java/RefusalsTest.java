import java.util.ArrayList;
import java.util.Arrays;
import java.util.List;
import java.util.Set;

/**
 * "Refusals are answers, the first of these that fits", and "What is refused, or found, changes nothing but
 * status()": in each of some states every call is tried with every number at an edge, on an object of its own. Its
 * answer must be the model's; and if it was refused or found, or if the call only looks or foretells, the object must
 * then answer a long run of calls as one on which it was not tried.
 */
public final class RefusalsTest extends Edges {
    private static final String WAY = "tape:w2,3,1;r2,3,60;s5,1;o2,8;p1,9;l9,2;q3,9;s7,0; way ";
    private static final String ROWS = "row:0,2,40 set:0,0,7 set:0,9,7 set:0,39,7 row:1,2,10 set:1,3,7 row:2,1,10 "
            + "set:2,0,7 row:3,0,0 row:7,0,40 set:7,1,7 ";
    private static final String[] STATES = {
        "",
        ROWS + "tape:w2",
        "tape:w4,5;r1,6,70; way image:1 rule:2,2 go " + ROWS + "set:6,0,0",
        WAY + "as:0,5",
        WAY + ROWS + "image:0 go rule:1,12 give:1,0 image:1 give:3,2 ask:4,0 tape:w0 way tape:w2 as:0,5",
        WAY + ROWS + "go rule:0,0 go go image:1 tape:w2 drop:5",
        WAY + "give:1,2 give:3,2 give:0,2 " + "rule:1,1 rule:2,2 rule:3,3 ".repeat(8) + "go image:0 "
            + "tape:" + "w".repeat(120) + " row:0,2,3 row:0,0,-1",
    };
    /** These change something if they are not refused. */
    private static final Set<String> CHANGING = Set.of("row", "set", "copy", "drop", "feed", "way", "go", "rule", "give",
            "undo", "image", "restore", "ask");
    private static final Set<String> WITH_STATUS = Set.of("row", "set", "copy", "drop", "fits", "as");

    private static final int[] ROW_NUMBERS = {LEAST, -1, 0, 1, 2, 3, 5, 7, 8, MOST};
    private static final int[] ROWS_OF_COPY = {-1, 0, 1, 2, 3, 5, 8};
    private static final int[] PLACES = {LEAST, -1, 0, 9, 10, 39, 40, MOST};
    private static final int[] PLACES_OF_COPY = {-1, 0, 10, 11, MOST};
    private static final int[] COUNTS_OF_COPY = {LEAST, -1, 0, 1, 10, 11, MOST};
    private static final int[] COUNTS = {LEAST, -1, 0, 1, 7, 10, 11, 40, 41, MOST};
    private static final int[] COUNTS_OF_FITS = {LEAST, -1, 0, 1, 2, 3, 4, 8, 9, MOST};
    private static final int[] PLACES_OF_FITS = {LEAST, -1, 0, 9, 39, 40, MOST};
    private static final int[] ROWS_OF_FITS = {-1, 0, 1, 3, 5, 7, 8};
    private static final int[] WALKERS = {LEAST, -1, 0, 1, 2, 5, 6, MOST};
    private static final int[] FEW_WALKERS = {-1, 0, 5, 6};
    private static final int[] WHATS = {LEAST, -1, 0, 1, 2, 3, 4, 5, 6, 7, 8, 9, MOST};
    private static final int[] FEW_WHATS = {-1, 0, 1, 2};
    private static final int[] RULES = {LEAST, -1, 0, 3, 4, MOST};
    private static final int[] MS = {LEAST, -1, 0, 30, 31, MOST};
    private static final int[] LANES = {LEAST, -1, 0, 1, 2, 3, MOST};
    private static final int[] BYTES = {LEAST, -1, 0, 119, 255, 256, MOST};
    private static final int[] RESTS = {LEAST, -1, 0, 999, 1000, MOST};

    private String state;
    private List<Integer> untouched;
    private int statusBefore;
    private int refused;

    public static void main(String[] args) {
        RefusalsTest test = new RefusalsTest();
        for (String state : STATES) {
            test.inState(state);
        }
        System.out.println(test.refused + " calls were refused or found");
        test.check.end();
    }

    private void inState(String newState) {
        state = newState;
        LastRest object = new LastRest();
        Player program = new Player(object);
        program.play(state);
        statusBefore = object.status();
        untouched = look(program);
        tryAll("row", ROW_NUMBERS, LANES, COUNTS);
        tryAll("set", ROW_NUMBERS, PLACES, new int[] {7, 300});
        tryAll("copy", ROWS_OF_COPY, PLACES_OF_COPY, ROWS_OF_COPY, PLACES_OF_COPY, COUNTS_OF_COPY);
        tryAll("drop", ROW_NUMBERS);
        tryAll("feed", BYTES);
        for (String name : new String[] {"fault", "go", "undo", "allThere", "turn", "status"}) {
            tryAll(name);
        }
        tryAll("rule", RULES, MS);
        tryAll("give", WALKERS, WALKERS);
        tryAll("walker", WALKERS, WHATS);
        tryAll("leg", WHATS);
        tryAll("mends", RESTS);
        tryAll("there", WALKERS, WHATS);
        for (String name : new String[] {"soonest", "fair", "parties", "image", "restore", "trace", "count"}) {
            tryAll(name, WHATS);
        }
        tryAll("sacks", new int[] {LEAST, -2, -1, 0, 5, 6, MOST});
        tryAll("loses", WALKERS);
        tryAll("fits", FEW_WALKERS, ROWS_OF_FITS, PLACES_OF_FITS, COUNTS_OF_FITS, FEW_WHATS);
        tryAll("kind", WALKERS);
        tryAll("as", WALKERS, WHATS);
        tryAll("ask", WALKERS, WHATS);
    }

    /** Every choice of one number from each of the given lists. */
    private void tryAll(String name, int[]... choices) {
        int[] at = new int[choices.length];
        boolean more = true;
        while (more) {
            int[] numbers = new int[choices.length];
            for (int i = 0; i < at.length; i++) {
                numbers[i] = choices[i][at[i]];
            }
            tryOut(name, numbers);
            int i = at.length - 1;
            while (i >= 0 && ++at[i] == choices[i].length) {
                at[i--] = 0;
            }
            more = i >= 0;
        }
    }

    private void tryOut(String name, int[] numbers) {
        Player program = new Player(new LastRest()), model = new Player(new Model());
        program.play(state);
        model.play(state);
        String call = name + Arrays.toString(numbers) + " behind '" + state + "'";
        int answer = program.call(name, numbers);
        due(call, answer, model.call(name, numbers));
        boolean found = answer <= NULL && answer >= STORE;
        boolean isRefused = found || answer == BAD || answer == STATE || answer == FULL;
        refused += isRefused ? 1 : 0;
        if (found) {
            due("status() of " + call, program.call("status"), -1000010 - answer);
        } else if (isRefused || !WITH_STATUS.contains(name)) {
            due("status() stays behind " + call, program.call("status"), statusBefore);
        } else {
            due("status() of " + call, program.call("status"), 0);
        }
        if (isRefused || !CHANGING.contains(name)) {
            due("nothing changes by " + call, look(program).equals(untouched) ? 1 : 0, 1);
        }
    }

    /** All that can be seen of an object but its status; it is used up then. */
    private static List<Integer> look(Player p) {
        List<Integer> seen = new ArrayList<>();
        for (int i = 0; i <= 8; i++) {
            seen.add(p.call("count", i));
        }
        seen.add(p.call("fault"));
        for (int i = 0; i < 8; i++) {
            seen.add(p.call("trace", i));
            seen.add(p.call("leg", i));
        }
        lookAtWalkers(p, seen);
        lookAtActs(p, seen);
        for (int k = 0; k < 2; k++) {
            seen.add(p.call("restore", k));
            lookAtActs(p, seen);
        }
        p.feed(",3;r1,2,3;s4,5;");
        seen.add(p.call("way"));
        seen.add(p.call("count", 1));
        lookAtRows(p, seen);
        return seen;
    }

    private static void lookAtWalkers(Player p, List<Integer> seen) {
        for (int walker = 0; walker < 6; walker++) {
            seen.add(p.call("kind", walker));
            for (int what = 0; what < 6; what++) {
                seen.add(p.call("walker", walker, what));
            }
        }
    }

    private static void lookAtActs(Player p, List<Integer> seen) {
        int left = 1;
        while (left >= 0) {
            seen.add(31 * p.call("count", 4) + p.call("count", 5));
            seen.add(p.call("walker", 0, 3));
            seen.add(p.call("walker", 2, 1));
            left = p.call("undo");
            seen.add(left);
        }
    }

    /** A lone one comes in minute 7, so that each item of 7 is seen; then lanes and sizes. */
    private static void lookAtRows(Player p, List<Integer> seen) {
        p.call("way");
        p.feed("w7;r3,0,1;s1,0;");
        p.call("way");
        for (int row = 0; row < 8; row++) {
            for (int i : new int[] {0, 1, 3, 9, 39}) {
                seen.add(p.call("fits", 0, row, i, 1, 0));
            }
            seen.add(p.call("set", row, 0, 70000));
            seen.add(p.call("drop", row));
        }
    }
}
