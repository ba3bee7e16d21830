/** What the tests of edges share: the names of refusals, an object at play, and how a text is fed to it. */
abstract class Edges {
    static final int NONE = -1000000, BAD = -1000001, STATE = -1000002, FULL = -1000003;
    static final int NULL = -1000011, PLACE = -1000012, KIND = -1000013, SIZE = -1000014, STORE = -1000015;
    static final int FAULT_AT = -1000100;
    static final int LEAST = Integer.MIN_VALUE, MOST = Integer.MAX_VALUE;

    final Check check = new Check();
    LastRest x = new LastRest();

    void due(String told, int got, int want) {
        check.due(told, got, want);
    }

    void dueAll(String told, int[] got, int... want) {
        due(told + ": how many answers", got.length, want.length);
        for (int i = 0; i < Math.min(got.length, want.length); i++) {
            due(told + ", " + i, got[i], want[i]);
        }
    }

    void fresh() {
        x = new LastRest();
    }

    void feed(String text) {
        for (int i = 0; i < text.length(); i++) {
            x.feed(text.charAt(i));
        }
    }

    int read(String text) {
        feed(text);
        return x.way();
    }

    /** A new object with the way that a text tells. */
    void told(String text) {
        fresh();
        int walkers = read(text);
        if (walkers < 0) {
            due("this text is read: " + text, walkers, 0);
        }
    }

    void go(int legs) {
        for (int i = 0; i < legs; i++) {
            x.go();
        }
    }

    /** Of a walker: pace, sack, tired, the minute in which it leaves, rested, minutes of the next leg. */
    int[] walker(int walker) {
        int[] all = new int[6];
        for (int what = 0; what < all.length; what++) {
            all[what] = x.walker(walker, what);
        }
        return all;
    }

    /** Tired, the minute in which it leaves, rested. */
    int[] state(int walker) {
        return new int[] {x.walker(walker, 2), x.walker(walker, 3), x.walker(walker, 4)};
    }
}
