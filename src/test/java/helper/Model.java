import java.util.ArrayDeque;
import java.util.ArrayList;
import java.util.Arrays;
import java.util.List;
import java.util.regex.Matcher;
import java.util.regex.Pattern;

/**
 * The document told a second time, as slowly and plainly as can be and in another shape than the program:
 * kinds are classes, ways are values that are copied, and whatever is foretold is tried out in full.
 */
final class Model {
    static final int NONE = -1000000, BAD = -1000001, STATE = -1000002, FULL = -1000003;

    // ---- kinds of walkers

    interface Asked {
        int pace();
        int number();
        List<Integer> trace();

        default int size() {
            trace().add(10);
            return pace();
        }

        default int mark() {
            trace().add(20);
            return number();
        }
    }

    abstract static class Walker implements Asked, Cloneable {
        int number, pace, sack, tired, leaves, rested, comes;
        List<Integer> trace = new ArrayList<>();

        public int pace() { return pace; }
        public int number() { return number; }
        public List<Integer> trace() { return trace; }

        int forOneMile() { return pace + (tired + sack * 2) / 8; }
        abstract int tiresOnMile(boolean leads);
        abstract int kind();

        Walker twin() {
            try {
                return (Walker) clone();
            } catch (CloneNotSupportedException e) {
                throw new IllegalStateException(e);
            }
        }
    }

    static class Steady extends Walker {
        int tiresOnMile(boolean leads) { return 1 + sack / 2; }
        int kind() { return 1; }

        public int size() {
            trace.add(11);
            int lent = super.size();
            return lent + mark();
        }

        public int mark() {
            trace.add(21);
            return super.mark() + tired;
        }
    }

    static final class Quick extends Steady {
        int forOneMile() { return Math.max(super.forOneMile() - 1, 1); }
        int kind() { return 2; }

        public int size() {
            trace.add(12);
            return 0 - super.size();
        }

        public int mark() {
            trace.add(24);
            return super.mark() * 2;
        }
    }

    static final class Proud extends Steady {
        int tiresOnMile(boolean leads) { return leads ? 0 : super.tiresOnMile(false); }
        int kind() { return 3; }

        public int mark() {
            trace.add(22);
            return super.mark() - 1000;
        }
    }

    static class Old extends Walker {
        int forOneMile() { return super.forOneMile() + 3; }
        int tiresOnMile(boolean leads) { return 0; }
        int kind() { return 4; }

        public int size() {
            trace.add(13);
            return super.size() - 100;
        }

        public int mark() {
            trace.add(23);
            int lent = super.mark();
            return lent - size();
        }
    }

    static final class Lame extends Old {
        int tiresOnMile(boolean leads) { return 2 + sack / 2; }
        int kind() { return 5; }

        public int size() {
            trace.add(14);
            return super.size() * 2;
        }
    }

    // ---- ways

    static final class Way {
        List<Integer> miles = new ArrayList<>();
        int gate, rule, m, sun;
        List<Walker> walkers = new ArrayList<>();

        Way twin() {
            Way t = new Way();
            t.miles.addAll(miles);
            t.gate = gate;
            t.rule = rule;
            t.m = m;
            t.sun = sun;
            for (Walker w : walkers) {
                t.walkers.add(w.twin());
            }
            return t;
        }

        boolean atHut() { return gate == miles.size(); }

        void walk(int howFar) {
            int start = walkers.stream().mapToInt(w -> w.leaves).min().orElse(0);
            Walker leader = walkers.stream().filter(w -> w.leaves == start).findFirst().orElse(null);
            for (Walker w : walkers) {
                w.comes = w.leaves + howFar * w.forOneMile();
                w.tired += howFar * w.tiresOnMile(w == leader);
            }
        }

        Way go() {
            walk(miles.get(gate));
            gate++;
            int first = walkers.stream().mapToInt(w -> w.comes).min().orElse(0);
            int last = walkers.stream().mapToInt(w -> w.comes).max().orElse(0);
            for (Walker w : walkers) {
                w.leaves = w.comes;
                if (!atHut() && rule == 0) w.leaves = last;
                if (!atHut() && rule == 1) w.leaves = last + m;
                if (!atHut() && rule == 2 && first + m > w.comes) w.leaves = first + m;
                int rest = w.leaves - w.comes;
                w.rested += rest;
                w.tired -= Math.min(w.tired, mended(rest));
            }
            return this;
        }

        Way toHut() {
            while (!atHut()) go();
            return this;
        }

        Way by(int rule, int m) {
            Way t = twin();
            t.rule = rule;
            t.m = m;
            return t;
        }

        int last() { return walkers.stream().mapToInt(w -> w.leaves).max().orElse(0); }

        Way only(int set) {
            Way t = twin();
            t.walkers.removeIf(w -> (set & 1 << w.number) == 0);
            return t;
        }

        int back() {
            Way t = twin();
            for (int leg = gate - 1; leg >= 0; leg--) {
                t.walk(miles.get(leg));
                for (Walker w : t.walkers) w.leaves = w.comes;
            }
            return t.last();
        }
    }

    static int mended(int rest) {
        return rest < 2 ? 0 : rest < 10 ? 2 : rest <= 20 ? 6 : 4;
    }

    // ---- what the object holds

    final List<Byte> tape = new ArrayList<>();
    final int[][] rows = new int[8][];
    final int[] lanes = new int[8];
    int status, fault;
    Way way;
    final ArrayDeque<Way> acts = new ArrayDeque<>();
    final Way[] images = new Way[2];
    List<Integer> trace = new ArrayList<>();

    private int found(int number) {
        status = number;
        return -1000010 - number;
    }

    private int fine(int answer) {
        status = 0;
        return answer;
    }

    private Walker at(int walker) {
        return way != null && walker >= 0 && walker < way.walkers.size() ? way.walkers.get(walker) : null;
    }

    private void act() {
        acts.push(way.twin());
        if (acts.size() > 24) acts.removeLast();
    }

    int row(int row, int lane, int n) {
        if (row < 0 || row > 7 || lane < 0 || lane > 2 || n > 40) return BAD;
        if (n < 0) return found(4);
        rows[row] = new int[n];
        lanes[row] = lane;
        return fine(n);
    }

    int set(int row, int i, int v) {
        if (row < 0 || row > 7) return BAD;
        if (rows[row] == null) return found(1);
        if (i < 0 || i >= rows[row].length) return found(2);
        int unused = new int[] {24, 16, 0}[lanes[row]];
        rows[row][i] = v << unused >> unused;
        return fine(rows[row][i]);
    }

    int copy(int a, int i, int b, int j, int n) {
        if (a < 0 || a > 7 || b < 0 || b > 7) return BAD;
        if (rows[a] == null || rows[b] == null) return found(1);
        if (lanes[a] != lanes[b]) return found(5);
        if (i < 0 || j < 0 || n < 0) return found(2);
        if ((long) i + n > rows[a].length || (long) j + n > rows[b].length) return found(2);
        int[] ahead = Arrays.copyOfRange(rows[a], i, i + n);
        for (int k = 0; k < n; k++) rows[b][j + k] = ahead[k];
        return fine(n);
    }

    int drop(int row) {
        if (row < 0 || row > 7) return BAD;
        if (rows[row] == null) return found(1);
        int had = rows[row].length;
        rows[row] = null;
        return fine(had);
    }

    int feed(int letter) {
        if (letter < 0 || letter > 255) return BAD;
        if (tape.size() >= 120) return FULL;
        tape.add((byte) letter);
        return tape.size();
    }

    int way() {
        StringBuilder text = new StringBuilder();
        for (byte b : tape) text.append((char) (b & 255));
        tape.clear();
        Text read = new Text(text.toString());
        if (read.fault != 0) {
            fault = read.fault;
            return -1000100 - read.place;
        }
        way = read.way;
        acts.clear();
        return way.walkers.size();
    }

    int fault() { return fault; }

    int go() {
        if (way == null || way.atHut()) return STATE;
        act();
        return way.go().gate;
    }

    int rule(int rule, int m) {
        if (way == null) return STATE;
        if (rule < 0 || rule > 3 || m < 0 || m > 30) return BAD;
        int was = way.rule * 31 + way.m;
        act();
        way.rule = rule;
        way.m = m;
        return was;
    }

    int give(int a, int b) {
        if (at(a) == null || at(b) == null || a == b) return BAD;
        if (at(a).sack + at(b).sack > 20) return FULL;
        act();
        at(b).sack += at(a).sack;
        at(a).sack = 0;
        return at(b).sack;
    }

    int undo() {
        if (acts.isEmpty()) return STATE;
        way = acts.pop();
        return acts.size();
    }

    int walker(int walker, int what) {
        Walker w = at(walker);
        if (w == null || what < 0 || what > 5) return BAD;
        if (what == 5) return way.atHut() ? NONE : way.miles.get(way.gate) * w.forOneMile();
        return new int[] {w.pace, w.sack, w.tired, w.leaves, w.rested}[what];
    }

    int leg(int leg) {
        return way == null || leg < 0 || leg >= way.miles.size() ? BAD : way.miles.get(leg);
    }

    int mends(int rest) { return rest < 0 || rest > 999 ? BAD : mended(rest); }

    int there(int walker, int what) {
        if (at(walker) == null || what < 0 || what > 2) return BAD;
        Walker w = way.twin().toHut().walkers.get(walker);
        return new int[] {w.leaves, w.rested, w.tired}[what];
    }

    int allThere() { return way == null ? STATE : way.twin().toHut().last(); }

    int soonest(int what) {
        if (way == null) return STATE;
        if (what < 0 || what > 2) return BAD;
        int[] best = null;
        for (int rule = 0; rule < 4; rule++) {
            for (int m = 0; m <= 30; m++) {
                int there = way.by(rule, m).toHut().last();
                if (best == null || there < best[2]) best = new int[] {rule, m, there};
            }
        }
        return best[what];
    }

    private int lost(int walker, int rule, int m) {
        return way.by(rule, m).toHut().walkers.get(walker).leaves - way.by(3, 0).toHut().walkers.get(walker).leaves;
    }

    int loses(int walker) { return at(walker) == null ? BAD : lost(walker, way.rule, way.m); }

    int fair(int what) {
        if (way == null) return STATE;
        if (what < 0 || what > 2) return BAD;
        if (way.walkers.isEmpty()) return NONE;
        int[] best = null;
        for (int rule = 0; rule < 4; rule++) {
            for (int m = 0; m <= 30; m++) {
                int most = lost(0, rule, m);
                for (int w = 1; w < way.walkers.size(); w++) most = Math.max(most, lost(w, rule, m));
                if (best == null || most < best[2]) best = new int[] {rule, m, most};
            }
        }
        return best[what];
    }

    private List<Integer> bestRound;
    private int bestRoundThere;

    private void goRound(List<Integer> whose) {
        if (whose.size() == way.walkers.size()) {
            Way t = way.twin();
            for (int w = 0; w < whose.size(); w++) t.walkers.get(w).sack = way.walkers.get(whose.get(w)).sack;
            int there = t.toHut().last();
            if (bestRound == null || there < bestRoundThere) {
                bestRound = new ArrayList<>(whose);
                bestRoundThere = there;
            }
            return;
        }
        for (int w = 0; w < way.walkers.size(); w++) {
            if (!whose.contains(w)) {
                whose.add(w);
                goRound(whose);
                whose.remove(whose.size() - 1);
            }
        }
    }

    int sacks(int walker) {
        if (way == null) return STATE;
        if (walker != -1 && at(walker) == null) return BAD;
        bestRound = null;
        goRound(new ArrayList<>());
        return walker == -1 ? bestRoundThere : bestRound.get(walker);
    }

    int parties(int what) {
        if (way == null) return STATE;
        if (what < 0 || what > 1) return BAD;
        int bestSet = -1, best = 0;
        for (int set = 0; set < 1 << way.walkers.size(); set++) {
            if ((set & 1) != 0) continue;
            int there = Math.max(way.only(set).toHut().last(), way.only(~set).toHut().last());
            if (bestSet < 0 || there < best) {
                bestSet = set;
                best = there;
            }
        }
        return what == 0 ? bestSet : best;
    }

    int turn() {
        if (way == null) return STATE;
        int answer = NONE;
        for (int gate = way.gate; gate <= way.miles.size(); gate++) {
            Way t = way.twin();
            while (t.gate < gate) t.go();
            if (t.back() <= way.sun) answer = gate;
        }
        return answer;
    }

    int fits(int walker, int row, int i, int n, int what) {
        if (at(walker) == null || row < 0 || row > 7 || n < 1 || n > 8 || what < 0 || what > 1) return BAD;
        if (way.gate + n > way.miles.size()) return STATE;
        if (rows[row] == null) return found(1);
        if (i < 0 || (long) i + n > rows[row].length) return found(2);
        List<Integer> fitting = new ArrayList<>();
        for (int code = 0; code < 124; code++) {
            int rule = code / 31, m = code % 31;
            if (rule % 3 == 0 && m != 0) continue;
            Way t = way.by(rule, m);
            boolean so = true;
            for (int k = 0; k < n; k++) so &= t.go().walkers.get(walker).comes == rows[row][i + k];
            if (so) fitting.add(code);
        }
        return fine(what == 0 ? fitting.size() : fitting.isEmpty() ? NONE : fitting.get(0));
    }

    int image(int k) {
        if (k != 0 && k != 1) return BAD;
        if (way == null) return STATE;
        images[k] = way.twin();
        return 1;
    }

    int restore(int k) {
        if (k != 0 && k != 1) return BAD;
        if (images[k] == null) return STATE;
        way = images[k].twin();
        acts.clear();
        return 1;
    }

    int kind(int walker) { return at(walker) == null ? BAD : at(walker).kind(); }

    int as(int walker, int kind) {
        Walker w = at(walker);
        if (w == null || kind < 0 || kind > 5) return BAD;
        List<Class<?>> kinds = List.of(Walker.class, Steady.class, Quick.class, Proud.class, Old.class, Lame.class);
        return kinds.get(kind).isInstance(w) ? fine(walker) : found(3);
    }

    int ask(int walker, int what) {
        if (at(walker) == null || what < 0 || what > 1) return BAD;
        Walker w = at(walker).twin();
        w.trace = new ArrayList<>();
        int answer = what == 0 ? w.size() : w.mark();
        trace = w.trace;
        return answer;
    }

    int trace(int i) { return i < 0 || i >= Math.min(16, trace.size()) ? NONE : trace.get(i); }

    int count(int what) {
        if (what < 0 || what > 8) return BAD;
        if (what == 0) return (int) Arrays.stream(rows).filter(r -> r != null).count();
        if (what == 7) return acts.size();
        if (what == 8) return tape.size();
        if (way == null) return 0;
        return new int[] {0, way.miles.size(), way.walkers.size(), way.gate, way.rule, way.m, way.sun}[what];
    }

    int status() { return status; }

    // ---- texts

    /** A text is cut into tokens first; then a list of what may stand where goes along them. */
    static final class Text {
        private static final Pattern TOKEN = Pattern.compile("[a-z]|[0-9]{1,3}(?![0-9])|[,;]");
        final List<String> tokens = new ArrayList<>();
        final List<Integer> places = new ArrayList<>();
        final Way way = new Way();
        int fault, place;

        Text(String text) {
            Matcher matcher = TOKEN.matcher(text);
            int at = 0;
            while (at < text.length()) {
                boolean known = matcher.region(at, text.length()).lookingAt();
                tokens.add(known ? matcher.group() : "?");
                places.add(at);
                at += known ? matcher.group().length() : 1;
            }
            tokens.add("");
            places.add(text.length());
            read();
        }

        private void read() {
            int t = 0;
            if (!stands(t++, "w")) return;
            do {
                if (!number(t, 1, 9)) return;
                if (way.miles.size() == 8) {
                    blame(t, 3);
                    return;
                }
                way.miles.add(Integer.parseInt(tokens.get(t++)));
            } while (tokens.get(t++).equals(","));
            if (!stands(t - 1, ";") || !stands(t++, "r")) return;
            if (!number(t, 0, 3) || !stands(t + 1, ",")) return;
            if (!number(t + 2, 0, 30) || !stands(t + 3, ",")) return;
            if (!number(t + 4, 1, 999) || !stands(t + 5, ";")) return;
            way.rule = Integer.parseInt(tokens.get(t));
            way.m = Integer.parseInt(tokens.get(t + 2));
            way.sun = Integer.parseInt(tokens.get(t + 4));
            t += 6;
            while (!tokens.get(t).isEmpty()) {
                if (!tokens.get(t).matches("[sqpol]")) {
                    blame(t, 1);
                    return;
                }
                if (way.walkers.size() == 6) {
                    blame(t, 3);
                    return;
                }
                if (!number(t + 1, 1, 20) || !stands(t + 2, ",")) return;
                if (!number(t + 3, 0, 9) || !stands(t + 4, ";")) return;
                Walker w = of(tokens.get(t));
                w.number = way.walkers.size();
                w.pace = Integer.parseInt(tokens.get(t + 1));
                w.sack = Integer.parseInt(tokens.get(t + 3));
                way.walkers.add(w);
                t += 5;
            }
        }

        private static Walker of(String sort) {
            switch (sort) {
                case "s": return new Steady();
                case "q": return new Quick();
                case "p": return new Proud();
                case "o": return new Old();
                default: return new Lame();
            }
        }

        private boolean stands(int t, String token) {
            if (tokens.get(t).equals(token)) return true;
            blame(t, 1);
            return false;
        }

        private boolean number(int t, int least, int most) {
            String token = tokens.get(t);
            if (!token.matches("[0-9]+")) {
                blame(t, 1);
                return false;
            }
            int value = Integer.parseInt(token);
            if (value >= least && value <= most) return true;
            blame(t, 2);
            return false;
        }

        private void blame(int t, int number) {
            fault = number;
            place = places.get(t);
        }
    }
}
