/**
 * A way of legs with gates at which all wait by a rule, and the walkers on it: when each is there,
 * how long each has rested and how tired it is, and what would be so by other rules.
 *
 * <p>No call throws: a refusal is an answer. All that a call needs is made once and used again,
 * since everything that a run makes stays in one small room.
 */
public final class LastRest {
    public static final int NONE = -1000000, BAD = -1000001, STATE = -1000002, FULL = -1000003;

    private static final int FINDINGS = -1000010, FAULTS = -1000100;
    private static final int MISSING_ROW = 1, NO_PLACE = 2, OTHER_KIND = 3, BELOW_NONE = 4, TWO_LANES = 5;

    private static final int MOST_ROWS = 8, MOST_ITEMS = 40, LANES = 3;
    private static final int MOST_LEGS = 8, MOST_WALKERS = 6, EVERYBODY = 63;
    private static final int RULES = 4, AT_ONCE = 3, MINUTES = 31, MOST_SACK = 20;
    private static final int STEADY = 1, QUICK = 2, PROUD = 3, OLD = 4, LAME = 5, KINDS = 6;
    private static final int SIZE_ASK = 0, ASKS = 2;

    private final Row[] rows = new Row[MOST_ROWS];
    private final Reader reader = new Reader();
    private final Way now = new Way();
    private final Way spare = new Way();
    private final Way[] images = new Way[2];
    private final Acts acts = new Acts();
    private final Foretold foretold = new Foretold();
    private final Asker asker = new Asker();
    private int finding;

    public LastRest() {
        for (int i = 0; i < rows.length; i++) {
            rows[i] = new Row();
        }
        for (int i = 0; i < images.length; i++) {
            images[i] = new Way();
        }
    }

    // ---- rows

    public int row(int row, int lane, int n) {
        if (!isBelow(row, MOST_ROWS) || !isBelow(lane, LANES) || n > MOST_ITEMS) {
            return BAD;
        }
        if (n < 0) {
            return found(BELOW_NONE);
        }
        rows[row].make(lane, n);
        return foundNothing(n);
    }

    public int set(int row, int i, int v) {
        if (!isBelow(row, MOST_ROWS)) {
            return BAD;
        }
        Row target = rows[row];
        if (target.missing) {
            return found(MISSING_ROW);
        }
        if (!isBelow(i, target.size)) {
            return found(NO_PLACE);
        }
        return foundNothing(target.put(i, v));
    }

    public int copy(int a, int i, int b, int j, int n) {
        if (!isBelow(a, MOST_ROWS) || !isBelow(b, MOST_ROWS)) {
            return BAD;
        }
        Row from = rows[a];
        Row to = rows[b];
        if (from.missing || to.missing) {
            return found(MISSING_ROW);
        }
        if (from.lane != to.lane) {
            return found(TWO_LANES);
        }
        if (!from.holds(i, n) || !to.holds(j, n)) {
            return found(NO_PLACE);
        }
        System.arraycopy(from.items, i, to.items, j, n);
        return foundNothing(n);
    }

    public int drop(int row) {
        if (!isBelow(row, MOST_ROWS)) {
            return BAD;
        }
        Row target = rows[row];
        if (target.missing) {
            return found(MISSING_ROW);
        }
        target.missing = true;
        return foundNothing(target.size);
    }

    // ---- ways, acts

    public int feed(int letter) {
        if (!isBelow(letter, 256)) {
            return BAD;
        }
        if (reader.length == Reader.MOST_BYTES) {
            return FULL;
        }
        return reader.append(letter);
    }

    public int way() {
        if (!reader.readInto(spare)) {
            return FAULTS - reader.place;
        }
        now.become(spare);
        acts.forget();
        return now.party.size;
    }

    public int fault() {
        return reader.latestFault;
    }

    public int go() {
        if (!now.told || now.gate >= now.legs) {
            return STATE;
        }
        acts.keep(now);
        now.move(now.party, now.gate, now.rule, now.m);
        now.gate++;
        return now.gate;
    }

    public int rule(int rule, int m) {
        if (!now.told) {
            return STATE;
        }
        if (!isBelow(rule, RULES) || !isBelow(m, MINUTES)) {
            return BAD;
        }
        int before = MINUTES * now.rule + now.m;
        acts.keep(now);
        now.rule = rule;
        now.m = m;
        return before;
    }

    public int give(int a, int b) {
        if (!isWalker(a) || !isWalker(b) || a == b) {
            return BAD;
        }
        Walker giver = now.party.walkers[a];
        Walker taker = now.party.walkers[b];
        int both = giver.sack + taker.sack;
        if (both > MOST_SACK) {
            return FULL;
        }
        acts.keep(now);
        giver.sack = 0;
        taker.sack = both;
        return both;
    }

    public int undo() {
        if (acts.size == 0) {
            return STATE;
        }
        acts.takeBack(now);
        return acts.size;
    }

    public int walker(int walker, int what) {
        if (!isWalker(walker)) {
            return BAD;
        }
        Walker one = now.party.walkers[walker];
        switch (what) {
            case 0:
                return one.pace;
            case 1:
                return one.sack;
            case 2:
                return one.tired;
            case 3:
                return one.minute;
            case 4:
                return one.rested;
            case 5:
                return now.gate < now.legs ? one.minutesFor(now.miles[now.gate]) : NONE;
            default:
                return BAD;
        }
    }

    public int leg(int leg) {
        return isBelow(leg, now.legs) ? now.miles[leg] : BAD;
    }

    public int mends(int rest) {
        return isBelow(rest, 1000) ? Walker.mendedBy(rest) : BAD;
    }

    // ---- foretold

    public int there(int walker, int what) {
        if (!isWalker(walker) || !isBelow(what, 3)) {
            return BAD;
        }
        foretold.walkToHut(now, now.rule, now.m);
        Walker one = foretold.party.walkers[walker];
        if (what == 0) {
            return one.minute;
        }
        return what == 1 ? one.rested : one.tired;
    }

    public int allThere() {
        return now.told ? foretold.walkToHut(now, now.rule, now.m) : STATE;
    }

    public int soonest(int what) {
        if (!now.told) {
            return STATE;
        }
        if (!isBelow(what, 3)) {
            return BAD;
        }
        foretold.findSoonest(now);
        return foretold.bestRule(what);
    }

    public int loses(int walker) {
        if (!isWalker(walker)) {
            return BAD;
        }
        Walker one = foretold.party.walkers[walker];
        foretold.walkToHut(now, now.rule, now.m);
        int byRule = one.minute;
        foretold.walkToHut(now, AT_ONCE, 0);
        return byRule - one.minute;
    }

    public int fair(int what) {
        if (!now.told) {
            return STATE;
        }
        if (!isBelow(what, 3)) {
            return BAD;
        }
        if (now.party.size == 0) {
            return NONE;
        }
        foretold.findFair(now);
        return foretold.bestRule(what);
    }

    public int sacks(int walker) {
        if (!now.told) {
            return STATE;
        }
        if (walker != -1 && !isWalker(walker)) {
            return BAD;
        }
        foretold.findSacks(now);
        return walker == -1 ? foretold.best : foretold.bestWhose[walker];
    }

    public int parties(int what) {
        if (!now.told) {
            return STATE;
        }
        if (!isBelow(what, 2)) {
            return BAD;
        }
        foretold.findParties(now);
        return what == 0 ? foretold.bestNumber : foretold.best;
    }

    public int turn() {
        return now.told ? foretold.lastTurn(now) : STATE;
    }

    public int fits(int walker, int row, int i, int n, int what) {
        if (!isWalker(walker) || !isBelow(row, MOST_ROWS)) {
            return BAD;
        }
        if (n < 1 || n > MOST_LEGS || !isBelow(what, 2)) {
            return BAD;
        }
        if (n > now.legs - now.gate) {
            return STATE;
        }
        Row minutes = rows[row];
        if (minutes.missing) {
            return found(MISSING_ROW);
        }
        if (!minutes.holds(i, n)) {
            return found(NO_PLACE);
        }
        foretold.findFits(now, walker, minutes, i, n);
        return foundNothing(what == 0 ? foretold.best : foretold.bestNumber);
    }

    public int image(int k) {
        if (!isBelow(k, images.length)) {
            return BAD;
        }
        if (!now.told) {
            return STATE;
        }
        images[k].become(now);
        return 1;
    }

    public int restore(int k) {
        if (!isBelow(k, images.length)) {
            return BAD;
        }
        if (!images[k].told) {
            return STATE;
        }
        now.become(images[k]);
        acts.forget();
        return 1;
    }

    // ---- asked

    public int kind(int walker) {
        return isWalker(walker) ? now.party.walkers[walker].kind : BAD;
    }

    public int as(int walker, int kind) {
        if (!isWalker(walker) || !isBelow(kind, KINDS)) {
            return BAD;
        }
        if (!Asker.isSuch(now.party.walkers[walker].kind, kind)) {
            return found(OTHER_KIND);
        }
        return foundNothing(walker);
    }

    public int ask(int walker, int what) {
        if (!isWalker(walker) || !isBelow(what, ASKS)) {
            return BAD;
        }
        return asker.answer(now.party.walkers[walker], walker, what);
    }

    public int trace(int i) {
        return isBelow(i, asker.length) ? asker.bodies[i] : NONE;
    }

    public int count(int what) {
        switch (what) {
            case 0:
                return countRows();
            case 1:
                return now.legs;
            case 2:
                return now.party.size;
            case 3:
                return now.gate;
            case 4:
                return now.rule;
            case 5:
                return now.m;
            case 6:
                return now.sun;
            case 7:
                return acts.size;
            case 8:
                return reader.length;
            default:
                return BAD;
        }
    }

    public int status() {
        return finding;
    }

    private int countRows() {
        int n = 0;
        for (int i = 0; i < rows.length; i++) {
            if (!rows[i].missing) {
                n++;
            }
        }
        return n;
    }

    private boolean isWalker(int walker) {
        return isBelow(walker, now.party.size);
    }

    private int found(int number) {
        finding = number;
        return FINDINGS - number;
    }

    private int foundNothing(int answer) {
        finding = 0;
        return answer;
    }

    private static boolean isBelow(int number, int bound) {
        return number >= 0 && number < bound;
    }

    /** A row of bytes, shorts or ints; its items are always cut to the lane. */
    private static final class Row {
        private static final int BYTES = 0, SHORTS = 1;

        private final int[] items = new int[MOST_ITEMS];
        private boolean missing = true;
        private int lane;
        private int size;

        private void make(int newLane, int n) {
            missing = false;
            lane = newLane;
            size = n;
            for (int i = 0; i < items.length; i++) {
                items[i] = 0;
            }
        }

        private int put(int i, int v) {
            items[i] = cut(v);
            return items[i];
        }

        private int cut(int v) {
            if (lane == BYTES) {
                return (byte) v;
            }
            return lane == SHORTS ? (short) v : v;
        }

        /** Told by a difference, since i + n could wrap around. */
        private boolean holds(int i, int n) {
            return i >= 0 && n >= 0 && i <= size && n <= size - i;
        }
    }

    private static final class Walker {
        private int kind;
        private int pace;
        private int sack;
        private int tired;
        private int minute;
        private int rested;
        private int came;

        private void become(Walker other) {
            kind = other.kind;
            pace = other.pace;
            sack = other.sack;
            tired = other.tired;
            minute = other.minute;
            rested = other.rested;
            came = other.came;
        }

        private void begin(int newKind, int newPace, int newSack) {
            kind = newKind;
            pace = newPace;
            sack = newSack;
        }

        private int minutesFor(int miles) {
            int forOne = pace + (tired + 2 * sack) / 8;
            if (kind == QUICK) {
                return miles * Math.max(1, forOne - 1);
            }
            if (kind == OLD || kind == LAME) {
                return miles * (forOne + 3);
            }
            return miles * forOne;
        }

        private int tiresBy(int miles, boolean ahead) {
            if (kind == OLD || (kind == PROUD && ahead)) {
                return 0;
            }
            int steady = miles * (1 + sack / 2);
            return kind == LAME ? steady + miles : steady;
        }

        private void leaveAt(int leaves) {
            int rest = leaves - came;
            rested += rest;
            tired = Math.max(0, tired - mendedBy(rest));
            minute = leaves;
        }

        private static int mendedBy(int rest) {
            if (rest < 2) {
                return 0;
            }
            if (rest < 10) {
                return 2;
            }
            return rest <= 20 ? 6 : 4;
        }
    }

    /** All walkers of a way, of whom only those in the set walk. */
    private static final class Party {
        private final Walker[] walkers = new Walker[MOST_WALKERS];
        private int size;
        private int set = EVERYBODY;

        private Party() {
            for (int i = 0; i < walkers.length; i++) {
                walkers[i] = new Walker();
            }
        }

        private void become(Party other) {
            size = other.size;
            set = other.set;
            for (int i = 0; i < size; i++) {
                walkers[i].become(other.walkers[i]);
            }
        }

        private boolean isIn(int walker) {
            return (set >> walker & 1) != 0;
        }

        private void walkLeg(int miles) {
            int first = firstToLeave();
            for (int i = 0; i < size; i++) {
                if (isIn(i)) {
                    Walker one = walkers[i];
                    // The minutes come first: they go by how tired one is as it leaves.
                    one.came = one.minute + one.minutesFor(miles);
                    one.tired += one.tiresBy(miles, i == first);
                }
            }
        }

        /** Who begins a leg ahead of all others; -1 if nobody walks. */
        private int firstToLeave() {
            int first = -1;
            for (int i = 0; i < size; i++) {
                if (isIn(i) && (first < 0 || walkers[i].minute < walkers[first].minute)) {
                    first = i;
                }
            }
            return first;
        }

        private void leaveGate(int rule, int m) {
            int first = firstCame();
            int last = lastCame();
            for (int i = 0; i < size; i++) {
                if (isIn(i)) {
                    walkers[i].leaveAt(leavesAt(rule, m, walkers[i].came, first, last));
                }
            }
        }

        private static int leavesAt(int rule, int m, int came, int first, int last) {
            switch (rule) {
                case 0:
                    return last;
                case 1:
                    return last + m;
                case 2:
                    return Math.max(first + m, came);
                default:
                    return came;
            }
        }

        private int firstCame() {
            int first = -1;
            for (int i = 0; i < size; i++) {
                if (isIn(i) && (first < 0 || walkers[i].came < first)) {
                    first = walkers[i].came;
                }
            }
            return first;
        }

        private int lastCame() {
            int last = 0;
            for (int i = 0; i < size; i++) {
                if (isIn(i)) {
                    last = Math.max(last, walkers[i].came);
                }
            }
            return last;
        }

        private int lastMinute() {
            int last = 0;
            for (int i = 0; i < size; i++) {
                if (isIn(i)) {
                    last = Math.max(last, walkers[i].minute);
                }
            }
            return last;
        }
    }

    /** What a text tells and acts change; until a text is told there is none. */
    private static final class Way {
        private final int[] miles = new int[MOST_LEGS];
        private final Party party = new Party();
        private boolean told;
        private int legs;
        private int gate;
        private int rule;
        private int m;
        private int sun;

        private void become(Way other) {
            told = other.told;
            legs = other.legs;
            gate = other.gate;
            rule = other.rule;
            m = other.m;
            sun = other.sun;
            System.arraycopy(other.miles, 0, miles, 0, miles.length);
            party.become(other.party);
        }

        /** Moves any party, so that what is foretold goes by the same law as what is done. */
        private void move(Party walking, int leg, int byRule, int byM) {
            boolean toHut = leg + 1 >= legs;
            walking.walkLeg(miles[leg]);
            walking.leaveGate(toHut ? AT_ONCE : byRule, byM);
        }
    }

    /**
     * The tape and how it is read: token by token, up to the first that has a fault. The way that it
     * is read into is never walked, so that there nobody is tired and all are at gate 0.
     */
    private static final class Reader {
        private static final int MOST_BYTES = 120, MOST_FIGURES = 3;
        private static final int END = -1, STRANGE = -2, NUMBER = -3;
        private static final int MISPLACED = 1, NOT_AS_TOLD = 2, NO_ROOM = 3;

        private final int[] tape = new int[MOST_BYTES];
        private int length;
        private int next;
        private int token;
        private int tokenAt;
        private int number;
        private int fault;
        private int place;
        private int latestFault;

        private int append(int letter) {
            tape[length] = letter;
            length++;
            return length;
        }

        private boolean readInto(Way way) {
            fault = 0;
            next = 0;
            advance();
            readLegs(way);
            readRule(way);
            readWalkers(way);
            length = 0;
            if (fault != 0) {
                latestFault = fault;
            }
            way.told = fault == 0;
            return way.told;
        }

        private void readLegs(Way way) {
            expect('w');
            boolean more = true;
            for (int leg = 0; leg <= MOST_LEGS && more; leg++) {
                int miles = expectNumber(1, 9, leg < MOST_LEGS);
                if (fault == 0) {
                    way.miles[leg] = miles;
                    way.legs = leg + 1;
                }
                more = accept(',');
            }
            expect(';');
        }

        private void readRule(Way way) {
            expect('r');
            way.rule = expectNumber(0, RULES - 1, true);
            expect(',');
            way.m = expectNumber(0, MINUTES - 1, true);
            expect(',');
            way.sun = expectNumber(1, 999, true);
            expect(';');
        }

        private void readWalkers(Way way) {
            way.party.size = 0;
            for (int i = 0; i <= MOST_WALKERS && fault == 0 && token != END; i++) {
                int kind = expectSort(i < MOST_WALKERS);
                int pace = expectNumber(1, 20, true);
                expect(',');
                int sack = expectNumber(0, 9, true);
                expect(';');
                if (fault == 0) {
                    way.party.walkers[i].begin(kind, pace, sack);
                    way.party.size = i + 1;
                }
            }
        }

        private int expectSort(boolean room) {
            int kind = kindOf(token);
            if (kind == 0) {
                blame(MISPLACED);
            } else if (!room) {
                blame(NO_ROOM);
            } else {
                advance();
            }
            return kind;
        }

        private static int kindOf(int sort) {
            switch (sort) {
                case 's':
                    return STEADY;
                case 'q':
                    return QUICK;
                case 'p':
                    return PROUD;
                case 'o':
                    return OLD;
                case 'l':
                    return LAME;
                default:
                    return 0;
            }
        }

        private int expectNumber(int least, int most, boolean room) {
            int value = number;
            if (token != NUMBER) {
                blame(MISPLACED);
            } else if (value < least || value > most) {
                blame(NOT_AS_TOLD);
            } else if (!room) {
                blame(NO_ROOM);
            } else {
                advance();
            }
            return value;
        }

        private void expect(int sign) {
            if (token == sign) {
                advance();
            } else {
                blame(MISPLACED);
            }
        }

        private boolean accept(int sign) {
            if (fault != 0 || token != sign) {
                return false;
            }
            advance();
            return true;
        }

        /** Only the first fault counts: what is read behind it is not looked at. */
        private void blame(int newFault) {
            if (fault == 0) {
                fault = newFault;
                place = tokenAt;
            }
        }

        /** Behind a fault it stays where it is. */
        private void advance() {
            if (fault != 0) {
                return;
            }
            tokenAt = next;
            if (next >= length) {
                token = END;
                return;
            }
            int letter = tape[next];
            if (isFigure(letter)) {
                takeFigures();
                return;
            }
            next++;
            boolean known = (letter >= 'a' && letter <= 'z') || letter == ',' || letter == ';';
            token = known ? letter : STRANGE;
        }

        /** Figures side by side are never parted: too many of them are no token at all. */
        private void takeFigures() {
            number = 0;
            while (next < length && isFigure(tape[next])) {
                number = 10 * number + tape[next] - '0';
                next++;
            }
            token = next - tokenAt <= MOST_FIGURES ? NUMBER : STRANGE;
        }

        private static boolean isFigure(int letter) {
            return letter >= '0' && letter <= '9';
        }
    }

    /** The ways as they were ahead of the latest acts, in a ring. */
    private static final class Acts {
        private static final int MOST = 24;

        private final Way[] kept = new Way[MOST];
        private int next;
        private int size;

        /** Made when first needed: most objects see few acts, and all of a run share one room. */
        private void keep(Way way) {
            if (kept[next] == null) {
                kept[next] = new Way();
            }
            kept[next].become(way);
            next = (next + 1) % MOST;
            size = Math.min(size + 1, MOST);
        }

        private void takeBack(Way way) {
            int latest = (next + MOST - 1) % MOST;
            if (size == 0 || kept[latest] == null) {
                return;
            }
            way.become(kept[latest]);
            next = latest;
            size--;
        }

        private void forget() {
            size = 0;
        }
    }

    /** What would be, walked by parties of its own, so that the way stays as it is. */
    private static final class Foretold {
        private static final int FAR = 1000000000, CODES = RULES * MINUTES, MOST_ORDERS = 720;

        private final Party party = new Party();
        private final Party returning = new Party();
        private final int[] alone = new int[MOST_WALKERS];
        private final int[] whose = new int[MOST_WALKERS];
        private final int[] bestWhose = new int[MOST_WALKERS];
        private int best;
        private int bestNumber;

        private int walkToHut(Way way, int rule, int m) {
            party.become(way.party);
            return walkOn(way, rule, m);
        }

        private int walkOn(Way way, int rule, int m) {
            for (int leg = way.gate; leg < way.legs; leg++) {
                way.move(party, leg, rule, m);
            }
            return party.lastMinute();
        }

        /** M says nothing by rules 0 and 3: there its least stands for all. */
        private static boolean isApart(int code) {
            int rule = code / MINUTES;
            return rule == 1 || rule == 2 || code % MINUTES == 0;
        }

        private void startSearch() {
            best = FAR;
            bestNumber = 0;
        }

        /** Of several the first stays; true if this one is kept. */
        private boolean keepIfLess(int value, int itsNumber) {
            if (value >= best) {
                return false;
            }
            best = value;
            bestNumber = itsNumber;
            return true;
        }

        private int bestRule(int what) {
            if (what == 0) {
                return bestNumber / MINUTES;
            }
            return what == 1 ? bestNumber % MINUTES : best;
        }

        private void findSoonest(Way way) {
            startSearch();
            for (int code = 0; code < CODES; code++) {
                if (isApart(code)) {
                    keepIfLess(walkToHut(way, code / MINUTES, code % MINUTES), code);
                }
            }
        }

        private void findFair(Way way) {
            walkToHut(way, AT_ONCE, 0);
            for (int i = 0; i < party.size; i++) {
                alone[i] = party.walkers[i].minute;
            }
            startSearch();
            for (int code = 0; code < CODES; code++) {
                if (isApart(code)) {
                    walkToHut(way, code / MINUTES, code % MINUTES);
                    keepIfLess(greatestLoss(), code);
                }
            }
        }

        private int greatestLoss() {
            int greatest = -FAR;
            for (int i = 0; i < party.size; i++) {
                greatest = Math.max(greatest, party.walkers[i].minute - alone[i]);
            }
            return greatest;
        }

        private void findSacks(Way way) {
            int n = way.party.size;
            for (int i = 0; i < n; i++) {
                whose[i] = i;
            }
            startSearch();
            boolean more = true;
            for (int order = 0; order < MOST_ORDERS && more; order++) {
                party.become(way.party);
                for (int i = 0; i < n; i++) {
                    party.walkers[i].sack = way.party.walkers[whose[i]].sack;
                }
                if (keepIfLess(walkOn(way, way.rule, way.m), order)) {
                    System.arraycopy(whose, 0, bestWhose, 0, n);
                }
                more = nextOrder(n);
            }
        }

        /** The order behind this one, as words stand in a word book; false behind the last. */
        private boolean nextOrder(int n) {
            int i = n - 2;
            while (i >= 0 && whose[i] > whose[i + 1]) {
                i--;
            }
            if (i < 0) {
                return false;
            }
            int j = n - 1;
            while (j > i && whose[j] < whose[i]) {
                j--;
            }
            swap(i, j);
            for (int low = i + 1, high = n - 1; low < high; low++, high--) {
                swap(low, high);
            }
            return true;
        }

        private void swap(int i, int j) {
            int kept = whose[i];
            whose[i] = whose[j];
            whose[j] = kept;
        }

        private void findParties(Way way) {
            startSearch();
            int sets = 1 << way.party.size;
            for (int set = 0; set < sets; set += 2) {
                int there = walkSet(way, set);
                int othersThere = walkSet(way, EVERYBODY - set);
                keepIfLess(Math.max(there, othersThere), set);
            }
        }

        private int walkSet(Way way, int set) {
            party.become(way.party);
            party.set = set;
            return walkOn(way, way.rule, way.m);
        }

        private int lastTurn(Way way) {
            int last = NONE;
            party.become(way.party);
            for (int gate = way.gate; gate <= way.legs; gate++) {
                if (walkBack(way, gate) <= way.sun) {
                    last = gate;
                }
                if (gate < way.legs) {
                    way.move(party, gate, way.rule, way.m);
                }
            }
            return last;
        }

        private int walkBack(Way way, int gate) {
            returning.become(party);
            for (int leg = gate - 1; leg >= 0; leg--) {
                returning.walkLeg(way.miles[leg]);
                returning.leaveGate(AT_ONCE, 0);
            }
            return returning.lastMinute();
        }

        /** How many rules fit is kept as the best, the first of them as its number. */
        private void findFits(Way way, int walker, Row minutes, int from, int n) {
            best = 0;
            bestNumber = NONE;
            for (int code = 0; code < CODES; code++) {
                if (isApart(code) && isSo(way, code, walker, minutes, from, n)) {
                    best++;
                    bestNumber = best == 1 ? code : bestNumber;
                }
            }
        }

        private boolean isSo(Way way, int code, int walker, Row minutes, int from, int n) {
            party.become(way.party);
            for (int i = 0; i < n; i++) {
                way.move(party, way.gate + i, code / MINUTES, code % MINUTES);
                if (party.walkers[walker].came != minutes.items[from + i]) {
                    return false;
                }
            }
            return true;
        }
    }

    /** Asks of walkers by kind, and the bodies that began for the latest one. */
    private static final class Asker {
        private static final int MOST_TRACED = 16, DEEPEST = 16;
        private static final int[] KIND_ABOVE = {-1, 0, 1, 1, 0, 4};
        /** By kinds, 0: none of its own. */
        private static final int[] SIZE_BODIES = {10, 11, 12, 0, 13, 14};
        private static final int[] MARK_BODIES = {20, 21, 24, 22, 23, 0};

        private final int[] bodies = new int[MOST_TRACED];
        private int length;

        private static boolean isSuch(int kind, int wanted) {
            int above = kind;
            for (int up = 0; up < KINDS && above >= 0; up++) {
                if (above == wanted) {
                    return true;
                }
                above = KIND_ABOVE[above];
            }
            return false;
        }

        private int answer(Walker walker, int number, int what) {
            length = 0;
            if (what == SIZE_ASK) {
                return sizeOf(walker, number, 0);
            }
            return markOf(walker, number, 0);
        }

        private int sizeOf(Walker walker, int number, int depth) {
            return begin(nearest(SIZE_BODIES, walker.kind), walker, number, depth);
        }

        private int markOf(Walker walker, int number, int depth) {
            return begin(nearest(MARK_BODIES, walker.kind), walker, number, depth);
        }

        private static int nearest(int[] bodiesByKind, int kind) {
            int above = kind;
            for (int up = 0; up < KINDS && above > 0 && bodiesByKind[above] == 0; up++) {
                above = KIND_ABOVE[above];
            }
            return bodiesByKind[above];
        }

        private int begin(int body, Walker walker, int number, int depth) {
            if (depth > DEEPEST) {
                return 0;
            }
            leaveTrace(body);
            int deeper = depth + 1;
            switch (body) {
                case 10:
                    return walker.pace;
                case 11:
                    return begin(10, walker, number, deeper) + markOf(walker, number, deeper);
                case 12:
                    return -begin(11, walker, number, deeper);
                case 13:
                    return begin(10, walker, number, deeper) - 100;
                case 14:
                    return 2 * begin(13, walker, number, deeper);
                case 20:
                    return number;
                case 21:
                    return begin(20, walker, number, deeper) + walker.tired;
                case 22:
                    return begin(21, walker, number, deeper) - 1000;
                case 23:
                    return begin(20, walker, number, deeper) - sizeOf(walker, number, deeper);
                case 24:
                    return 2 * begin(21, walker, number, deeper);
                default:
                    return 0;
            }
        }

        private void leaveTrace(int body) {
            if (length < bodies.length) {
                bodies[length] = body;
                length++;
            }
        }
    }
}
