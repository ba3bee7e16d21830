import java.util.Random;

/** Long runs of chosen and stray calls, each answered by the program as by the model. */
public final class ModelTest {
    private static final int RUNS = 3000;
    private static final String SORTS = "sqpol";

    private final Check check = new Check();
    private Random random;
    private LastRest x;
    private Model y;
    private int run;
    private int calls;

    public static void main(String[] args) {
        ModelTest test = new ModelTest();
        for (int i = 0; i < RUNS && test.check.allRight(); i++) {
            test.run(i);
        }
        test.check.end();
    }

    private void run(int number) {
        run = number;
        random = new Random(number);
        x = new LastRest();
        y = new Model();
        calls = 0;
        int most = number % 20 == 0 ? 512 : 200;
        boolean withText = random.nextInt(10) != 0;
        if (withText) {
            text(validText());
        }
        while (calls < most && check.allRight()) {
            step();
        }
    }

    private void due(String call, int got, int want) {
        calls++;
        check.due("run " + run + " call " + calls + ": " + call, got, want);
    }

    private void text(String text) {
        for (int i = 0; i < text.length() && calls < 500; i++) {
            int letter = text.charAt(i);
            due("feed(" + letter + ")", x.feed(letter), y.feed(letter));
        }
        due("way() of " + text, x.way(), y.way());
        due("fault()", x.fault(), y.fault());
        for (int what = 1; what <= 8; what++) {
            due("count(" + what + ")", x.count(what), y.count(what));
        }
    }

    private String validText() {
        StringBuilder t = new StringBuilder("w");
        int legs = 1 + random.nextInt(8);
        for (int i = 0; i < legs; i++) {
            t.append(i == 0 ? "" : ",").append(1 + random.nextInt(9));
        }
        t.append(";r").append(random.nextInt(4)).append(',').append(random.nextInt(31));
        t.append(',').append(1 + random.nextInt(random.nextBoolean() ? 999 : 200)).append(';');
        int walkers = random.nextInt(12) == 0 ? 0 : 1 + random.nextInt(6);
        int pace = random.nextBoolean() ? 20 : 4;
        for (int i = 0; i < walkers; i++) {
            t.append(SORTS.charAt(random.nextInt(5))).append(1 + random.nextInt(pace));
            t.append(',').append(random.nextInt(10)).append(';');
        }
        return t.toString();
    }

    private String spoiltText() {
        StringBuilder t = new StringBuilder(validText());
        if (random.nextInt(4) == 0) {
            t.append("s1,1;q2,2;p3,3;o4,4;l5,5;s6,6;q7,7;");
        }
        if (random.nextInt(4) == 0) {
            t.insert(1, "1,2,3,4,5,6,7,");
        }
        String letters = "wrsqpolxz,;;,0123456789 A\u00e9";
        for (int n = random.nextInt(3); n >= 0; n--) {
            int at = random.nextInt(t.length());
            char letter = letters.charAt(random.nextInt(letters.length()));
            switch (random.nextInt(5)) {
                case 0: t.setCharAt(at, letter); break;
                case 1: t.insert(at, letter); break;
                case 2: t.deleteCharAt(at); break;
                case 3: t.insert(at, "0002".substring(random.nextInt(4))); break;
                default: t.setLength(at + 1); break;
            }
        }
        return t.toString();
    }

    /** A number near an edge: from below 0 to just above the most. */
    private int near(int most) {
        int chance = random.nextInt(40);
        if (chance == 0) return -1;
        if (chance == 1) return most + 1;
        if (chance == 2) return random.nextInt();
        if (chance == 3) return random.nextBoolean() ? Integer.MAX_VALUE : Integer.MIN_VALUE;
        return random.nextInt(most + 1);
    }

    private int walkerNumber() {
        return near(Math.max(0, y.count(2) - 1));
    }

    private void step() {
        switch (random.nextInt(12)) {
            case 0: case 1: rows(); break;
            case 2: case 3: acts(); break;
            case 4: look(); break;
            case 5: case 6: foretell(); break;
            case 7: fits(); break;
            case 8: images(); break;
            case 9: asked(); break;
            case 10: counts(); break;
            default: texts(); break;
        }
    }

    private void texts() {
        int chance = random.nextInt(30);
        if (chance == 0) {
            text(validText());
        } else if (chance < 4) {
            text(spoiltText());
        } else if (chance == 4) {
            for (int i = 0; i < 122; i++) {
                due("feed(49)", x.feed(49), y.feed(49));
            }
        } else {
            int letter = near(255);
            due("feed(" + letter + ")", x.feed(letter), y.feed(letter));
            if (chance < 8) {
                due("way()", x.way(), y.way());
            }
        }
    }

    private void rows() {
        int a = near(7) & (random.nextBoolean() ? 3 : -1), b = near(7) & (random.nextBoolean() ? 3 : -1);
        int i = near(8), j = near(8), n = near(6);
        switch (random.nextInt(6)) {
            case 0: {
                int lane = near(2), size = near(40);
                due("row(" + a + ", " + lane + ", " + size + ")", x.row(a, lane, size), y.row(a, lane, size));
                break;
            }
            case 1: case 2: {
                int v = random.nextBoolean() ? random.nextInt(400) : random.nextInt();
                due("set(" + a + ", " + i + ", " + v + ")", x.set(a, i, v), y.set(a, i, v));
                break;
            }
            case 3: case 4:
                due("copy(" + a + ", " + i + ", " + b + ", " + j + ", " + n + ")",
                        x.copy(a, i, b, j, n), y.copy(a, i, b, j, n));
                break;
            default:
                if (random.nextInt(3) == 0) {
                    due("drop(" + a + ")", x.drop(a), y.drop(a));
                }
                break;
        }
        due("status()", x.status(), y.status());
    }

    private void acts() {
        int chance = random.nextInt(10);
        if (chance < 2) {
            due("go()", x.go(), y.go());
        } else if (chance < 5) {
            int rule = near(3), m = near(30);
            due("rule(" + rule + ", " + m + ")", x.rule(rule, m), y.rule(rule, m));
        } else if (chance < 7) {
            int a = walkerNumber(), b = walkerNumber();
            due("give(" + a + ", " + b + ")", x.give(a, b), y.give(a, b));
        } else if (chance < 9) {
            due("undo()", x.undo(), y.undo());
        } else if (random.nextInt(20) == 0) {
            for (int i = 0; i < 30; i++) {
                due("undo()", x.undo(), y.undo());
            }
        }
        look();
    }

    private void look() {
        int w = walkerNumber();
        for (int what = -1; what <= 6; what++) {
            due("walker(" + w + ", " + what + ")", x.walker(w, what), y.walker(w, what));
        }
        int leg = near(8), rest = near(random.nextBoolean() ? 30 : 999);
        due("leg(" + leg + ")", x.leg(leg), y.leg(leg));
        due("mends(" + rest + ")", x.mends(rest), y.mends(rest));
    }

    private void foretell() {
        int w = walkerNumber(), what = near(2);
        switch (random.nextInt(8)) {
            case 0: due("there(" + w + ", " + what + ")", x.there(w, what), y.there(w, what)); break;
            case 1: due("allThere()", x.allThere(), y.allThere()); break;
            case 2: due("soonest(" + what + ")", x.soonest(what), y.soonest(what)); break;
            case 3: due("loses(" + w + ")", x.loses(w), y.loses(w)); break;
            case 4: due("fair(" + what + ")", x.fair(what), y.fair(what)); break;
            case 5: {
                int whose = random.nextInt(3) == 0 ? -1 : w;
                due("sacks(" + whose + ")", x.sacks(whose), y.sacks(whose));
                break;
            }
            case 6: due("parties(" + what + ")", x.parties(what), y.parties(what)); break;
            default: due("turn()", x.turn(), y.turn()); break;
        }
    }

    /** A row is filled with minutes that some rule gives, so that some rules do fit. */
    private void fits() {
        int w = walkerNumber(), row = near(7), n = 1 + random.nextInt(8), i = near(3);
        if (random.nextInt(8) != 0 && w >= 0 && w < y.count(2) && y.way != null && !y.way.atHut()) {
            row = 0;
            n = 1 + random.nextInt(y.way.miles.size() - y.way.gate);
            i = random.nextInt(3);
            due("row(0, 2, 12)", x.row(0, 2, 12), y.row(0, 2, 12));
            Model.Way t = y.way.by(random.nextInt(4), random.nextInt(31));
            for (int k = 0; k < n; k++) {
                int minute = t.go().walkers.get(w).comes;
                due("set(0, .., ..)", x.set(0, i + k, minute), y.set(0, i + k, minute));
            }
        }
        n = random.nextInt(20) == 0 ? near(9) : n;
        for (int what = random.nextInt(9) == 0 ? -1 : 0; what <= 1; what++) {
            due("fits(" + w + ", " + row + ", " + i + ", " + n + ", " + what + ")",
                    x.fits(w, row, i, n, what), y.fits(w, row, i, n, what));
        }
        due("status()", x.status(), y.status());
    }

    private void images() {
        int k = near(1);
        if (random.nextBoolean()) {
            due("image(" + k + ")", x.image(k), y.image(k));
        } else if (random.nextInt(3) == 0) {
            due("restore(" + k + ")", x.restore(k), y.restore(k));
            look();
        }
    }

    private void asked() {
        int w = walkerNumber(), kind = near(5), what = near(1);
        due("kind(" + w + ")", x.kind(w), y.kind(w));
        due("as(" + w + ", " + kind + ")", x.as(w, kind), y.as(w, kind));
        due("status()", x.status(), y.status());
        due("ask(" + w + ", " + what + ")", x.ask(w, what), y.ask(w, what));
        for (int i = -1; i < 9; i++) {
            due("trace(" + i + ")", x.trace(i), y.trace(i));
        }
    }

    private void counts() {
        for (int what = -1; what <= 9; what++) {
            due("count(" + what + ")", x.count(what), y.count(what));
        }
        due("status()", x.status(), y.status());
        due("fault()", x.fault(), y.fault());
    }
}
