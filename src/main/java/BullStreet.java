import java.util.Arrays;

/** A street with bulls, as ../shared/DOC.md promises it. */
public final class BullStreet {
    public static final int BAD = -1, FULL = -2, NONE = -3, STATE = -4;

    /** Told of who is OUT, of a CLAUSE, of a ROW that is not there; the CELL of who is OUT, too. */
    private static final int GONE = -9;
    private static final int NOTHING = -11, OUTSIDE = -12, OTHER_SORT = -13, BELOW_ZERO = -14, BY_ZERO = -15;

    private static final int MOST_CELLS = 30, MOST_PEOPLE = 20, MOST_BEASTS = 6, MOST_TENTHS = 60;
    private static final int MOST_BYTES = 200, MOST_CLAUSES = 8, MOST_OPEN = 3;
    private static final int MOST_ROWS = 24, MOST_BODIES = 30, MOST_ITEMS = 40, HOLDERS = 4;

    private static final int PERSON = 0, RUNNING = 1, STANDING = 2, FALLEN = 3, TOUCHING = 4, NEW = 5,
            HEAPED = 6, LEAVING = 7, BEAST = 8;
    /** By a KIND: the set of the KINDS that are it or under it. */
    private static final int[] UNDER = {0xFF, 0x32, 0x84, 0x48, 0x10, 0x20, 0x40, 0x80, 0x100};
    /** By a KIND: HARM from a herd. */
    private static final int[] HURT_OF = {0, 1, 0, 0, 2, 2, 1, 0, 0};

    private static final int WIDTH = 0, SLIP = 1, DOOR = 2;
    private static final int[] TRAIT_FIRST = {3, 0, 0}, TRAIT_LEAST = {1, 0, 0}, TRAIT_MOST = {9, 4, 1};
    private static final int SIGHT = 0, RISE = 1, HEAP = 2;
    private static final int[] RULE_FIRST = {3, 2, 3}, RULE_LEAST = {1, 0, 2}, RULE_MOST = {9, 9, 9};

    private static final int NEAR = 0, CROWD = 1, AHEAD = 2, PLACE = 3, TICK = 4, LONE = 5, FACTS = 6;
    /** Told as a number of CELLS or PEOPLE where there is no BEAST, no next CELL. */
    private static final int WITHOUT_ONE = 99;

    private static final int ACT_RUN = 0, ACT_STAND = 1, ACT_LEAVE = 2, ACT_DOWN = 3;

    private static final int BYTES = 0, SHORTS = 1, BOOLEANS = 4, MISSING = -1;
    private static final int HOLDS_PERSON = 0, HOLDS_BEAST = 1, HOLDS_ROW = 2, HOLDS_NOTHING = 3;
    private static final int ROW_SORTS = 10;

    private final Street now, trial, kept;
    private boolean isKept;
    private final byte[] tape = new byte[MOST_BYTES];
    private int tapeLength;
    private final Reader reader = new Reader();
    private final Rows rows = new Rows(), proof = new Rows();
    private final Sheet[] sheets = new Sheet[HOLDERS], shelfRows = new Sheet[HOLDERS];
    private final int[] shelfWhat = {HOLDS_NOTHING, HOLDS_NOTHING, HOLDS_NOTHING, HOLDS_NOTHING};
    private final int[] shelfNumber = new int[HOLDERS];
    private final Bodies bodies = new Bodies();

    public BullStreet() {
        Laws none = new Laws(0, new int[0], new int[0], new int[0], new int[0]);
        now = new Street(none);
        trial = new Street(none);
        kept = new Street(none);
    }

    // ---- the street

    public int street(int n) {
        if (n < 2 || n > MOST_CELLS) return BAD;
        now.lay(n);
        return n;
    }

    public int cell(int c, int what, int v) {
        if (!now.hasCell(c) || what < WIDTH || what > DOOR) return BAD;
        if (v < TRAIT_LEAST[what] || v > TRAIT_MOST[what]) return BAD;
        int was = now.traits[what][c];
        now.traits[what][c] = v;
        return was;
    }

    public int cellOf(int c, int what) {
        if (!now.hasCell(c)) return BAD;
        switch (what) {
            case WIDTH:
            case SLIP:
            case DOOR:
                return now.traits[what][c];
            case 3:
                return now.crowd[c];
            case 4:
                return now.down[c];
            case 5:
                return now.beastsIn(c);
            default:
                return BAD;
        }
    }

    public int rule(int what, int v) {
        if (what < SIGHT || what > HEAP || v < RULE_LEAST[what] || v > RULE_MOST[what]) return BAD;
        int was = now.rules[what];
        now.rules[what] = v;
        return was;
    }

    public int seed(int v) {
        int was = now.z;
        now.z = v;
        return was;
    }

    // ---- people, beasts

    public int person(int kind, int c, int pace) {
        if (!isPersonKind(kind) || !now.hasCell(c) || pace < 1 || pace > 3) return BAD;
        if (now.people >= MOST_PEOPLE) return FULL;
        return now.addPerson(kind, c, pace);
    }

    public int personOf(int p, int what) {
        if (!now.hasPerson(p)) return BAD;
        switch (what) {
            case 0:
                return now.kind[p];
            case 1:
                return now.place[p];
            case 2:
                return now.pace[p];
            case 3:
                return now.hurts[p];
            case 4:
                return now.isOut(p) ? GONE : now.nearOf(p);
            default:
                return BAD;
        }
    }

    public int beast(int c, int pace) {
        if (!now.hasCell(c) || pace < 1 || pace > 4) return BAD;
        if (now.beasts >= MOST_BEASTS) return FULL;
        return now.addBeast(c, pace);
    }

    public int beastOf(int b, int what) {
        if (!now.hasBeast(b)) return BAD;
        switch (what) {
            case 0:
                return now.beastPlace[b];
            case 1:
                return now.beastPace[b];
            case 2:
                return now.alone[b];
            default:
                return BAD;
        }
    }

    public int moves(int p, int c, int kind) {
        if (!now.hasPerson(p) || !now.hasCell(c) || !isPersonKind(kind)) return BAD;
        int was = now.kind[p];
        now.seat(p, c);
        now.become(p, kind);
        return was;
    }

    // ---- laws

    public int feed(long eight, int n) {
        if (n < 1 || n > 8) return BAD;
        if (tapeLength + n > MOST_BYTES) return FULL;
        for (int i = 0; i < n; i++) tape[tapeLength + i] = (byte) (eight >> (8 * i));
        tapeLength += n;
        return tapeLength;
    }

    public int read() {
        int n = tapeLength;
        tapeLength = 0;
        if (!reader.reads(tape, n)) return -100 - reader.fault();
        now.laws = reader.lawsRead();
        return now.laws.count;
    }

    public int says(int p) {
        if (!now.hasPerson(p)) return BAD;
        return now.isOut(p) ? GONE : now.clauseFor(p);
    }

    public int fact(int p, int what) {
        if (!now.hasPerson(p) || what < 0 || what >= FACTS) return BAD;
        if (now.isOut(p)) return NONE;
        now.lookAround(p);
        return now.facts[what];
    }

    // ---- tenths

    public int run(int n) {
        if (!isTenths(n)) return BAD;
        return now.goOn(n, null);
    }

    public int morning(int what) {
        switch (what) {
            case 0:
                return now.tick;
            case 1:
                return now.allHurts();
            case 2:
                return now.peopleOut();
            case 3:
                return now.heaps();
            default:
                return BAD;
        }
    }

    public int odds(int p, int n, int part) {
        if (!now.hasPerson(p) || !isTenths(n) || part < 0 || part > 1) return BAD;
        int above = 0;
        for (int z = 1; z <= 16; z++) {
            trial.copy(now);
            trial.z = z;
            trial.goOn(n, null);
            if (trial.hurts[p] > now.hurts[p]) above++;
        }
        int below = 16;
        // 16 is a power of 2: halving is all that can shorten the fraction
        while (below > 1 && above % 2 == 0) {
            above /= 2;
            below /= 2;
        }
        return part == 0 ? above : below;
    }

    public int begin(int p, int n) {
        if (!now.hasPerson(p) || !isTenths(n)) return BAD;
        int best = 0;
        int fewest = 0;
        for (int c = 0; c < now.cells; c++) {
            trial.copy(now);
            trial.seat(p, c);
            trial.goOn(n, null);
            // all TRIALS begin with the same HURTS: fewest in the end are fewest more
            if (c == 0 || trial.hurts[p] < fewest) {
                fewest = trial.hurts[p];
                best = c;
            }
        }
        return best;
    }

    public int door(int n) {
        if (!isTenths(n)) return BAD;
        trial.copy(now);
        int least = trial.goOn(n, null);
        int best = NONE;
        for (int c = 0; c < now.cells; c++) {
            if (now.traits[DOOR][c] == 1) continue;
            trial.copy(now);
            trial.traits[DOOR][c] = 1;
            int harm = trial.goOn(n, null);
            if (harm < least) {
                least = harm;
                best = c;
            }
        }
        return best;
    }

    public int limit(int n) {
        if (!isTenths(n)) return BAD;
        for (int m = now.people; m > 0; m--) {
            trial.copy(now);
            for (int p = m; p < now.people; p++) trial.seat(p, GONE);
            trial.goOn(n, null);
            if (trial.heaps() == 0) return m;
        }
        return 0;
    }

    public int law(int k, int n) {
        if (k < 0 || k >= now.laws.count || !isTenths(n)) return BAD;
        trial.copy(now);
        int harm = trial.goOn(n, null);
        trial.copy(now);
        trial.without = k;
        return trial.goOn(n, null) - harm + 1000;
    }

    public int together(int n) {
        if (!isTenths(n)) return BAD;
        trial.copy(now);
        int tenths = 0;
        for (int i = 1; i <= n; i++) {
            trial.tenth(i, null);
            if (trial.lone() == 0) tenths++;
        }
        return tenths;
    }

    public int harm(int n) {
        if (!isTenths(n)) return BAD;
        trial.copy(now);
        return trial.goOn(n, null);
    }

    // ---- rows

    public int prove(int n) {
        if (!isTenths(n)) return BAD;
        trial.copy(now);
        rows.count = 0;
        trial.goOn(n, rows);
        return rows.count;
    }

    public int row(int i, int what) {
        return rows.has(i, what) ? rows.parts[what][i] : GONE;
    }

    public int alterRow(int i, int what, int v) {
        if (!rows.has(i, what)) return GONE;
        int was = rows.parts[what][i];
        rows.parts[what][i] = v;
        return was;
    }

    public int judge() {
        trial.copy(now);
        proof.count = 0;
        trial.goOn(MOST_TENTHS, proof);
        for (int i = 0; i < rows.count; i++) {
            if (!rows.sameAt(i, proof)) return i + 1;
        }
        return 0;
    }

    // ---- the host

    public int sheet(int sheet, int sort, int n) {
        if (!isHolder(sheet) || sort < MISSING || sort > BOOLEANS) return BAD;
        if (sort == MISSING) {
            sheets[sheet] = null;
            return 1;
        }
        if (n > MOST_ITEMS) return BAD;
        if (n < 0) return BELOW_ZERO;
        sheets[sheet] = new Sheet(sort, n);
        return 1;
    }

    public int put(int sheet, int i, int v) {
        if (!isHolder(sheet)) return BAD;
        Sheet s = sheets[sheet];
        if (s == null) return NOTHING;
        if (!s.has(i)) return OUTSIDE;
        s.items[i] = s.narrowed(v);
        return 1;
    }

    public int item(int sheet, int sort, int i) {
        if (!isHolder(sheet) || sort < BYTES || sort > BOOLEANS) return BAD;
        Sheet s = sheets[sheet];
        if (s == null) return NOTHING;
        if (s.sort != sort) return OTHER_SORT;
        return s.has(i) ? s.items[i] : OUTSIDE;
    }

    public int widths(int sheet, int i, int n) {
        if (!isHolder(sheet) || n < 0 || n > MOST_CELLS) return BAD;
        Sheet s = sheets[sheet];
        if (s == null) return NOTHING;
        if (s.sort != BYTES) return OTHER_SORT;
        int came = 0;
        for (int c = 0; c < n; c++) {
            if (!s.has(i + c)) return OUTSIDE;
            if (cell(c, WIDTH, s.items[i + c]) != BAD) came++;
        }
        return came;
    }

    public int shelf(int shelf, int what, int n) {
        if (!isHolder(shelf) || !isThing(what, n)) return BAD;
        shelfWhat[shelf] = what;
        shelfNumber[shelf] = n;
        shelfRows[shelf] = what == HOLDS_ROW ? sheets[n] : null;
        return 1;
    }

    public int taken(int shelf, int as) {
        boolean asKind = as >= PERSON && as <= BEAST;
        boolean asRow = as >= ROW_SORTS && as <= ROW_SORTS + BOOLEANS;
        if (!isHolder(shelf) || !asKind && !asRow) return BAD;
        Sheet row = shelfRows[shelf];
        if (row != null) return row.sort == as - ROW_SORTS ? row.items.length : OTHER_SORT;
        int kind = kindOnShelf(shelf);
        if (kind < 0) return NOTHING;
        return asKind && isA(kind, as) ? shelfNumber[shelf] : OTHER_SORT;
    }

    public int act(int shelf, int act, int x) {
        bodies.count = 0;
        if (!isHolder(shelf) || act < 0 || act > 3) return 0;
        int kind = kindOnShelf(shelf);
        if (kind < 0) return 0;
        int number = shelfNumber[shelf];
        int pace = kind == BEAST ? now.beastPace[number] : now.pace[number];
        return bodies.answer(kind, number, pace, act, x);
    }

    public int trace(int i) {
        return i >= 0 && i < bodies.count ? bodies.ran[i] : NONE;
    }

    public int many(int what) {
        switch (what) {
            case 0:
                return now.cells;
            case 1:
                return now.people;
            case 2:
                return now.beasts;
            case 3:
                return now.laws.count;
            case 4:
                return rows.count;
            case 5:
                return tapeLength;
            case 6:
                return bodies.count;
            default:
                return BAD;
        }
    }

    // ---- kept

    public int keep() {
        kept.copy(now);
        isKept = true;
        return 1;
    }

    public int again() {
        if (!isKept) return NONE;
        now.copy(kept);
        return 1;
    }

    // ---- help

    private static boolean isA(int kind, int as) {
        return as >= 0 && as < UNDER.length && (UNDER[as] >> kind & 1) == 1;
    }

    private static boolean isPersonKind(int kind) {
        return kind >= RUNNING && kind <= LEAVING;
    }

    private static boolean isTenths(int n) {
        return n >= 0 && n <= MOST_TENTHS;
    }

    private static boolean isHolder(int i) {
        return i >= 0 && i < HOLDERS;
    }

    private boolean isThing(int what, int n) {
        switch (what) {
            case HOLDS_PERSON:
                return now.hasPerson(n);
            case HOLDS_BEAST:
                return now.hasBeast(n);
            case HOLDS_ROW:
                return isHolder(n);
            default:
                return what == HOLDS_NOTHING;
        }
    }

    /** Below 0, if there is nothing or a row; again() may have taken away the PERSON or BEAST of that number. */
    private int kindOnShelf(int shelf) {
        int number = shelfNumber[shelf];
        if (shelfWhat[shelf] == HOLDS_PERSON && now.hasPerson(number)) return now.kind[number];
        if (shelfWhat[shelf] == HOLDS_BEAST && now.hasBeast(number)) return BEAST;
        return -1;
    }

    /** All that keep() keeps, and the laws of a TENTH. */
    private static final class Street {
        int cells;
        /** By WIDTH, SLIP, DOOR, and by CELL. */
        final int[][] traits = new int[3][MOST_CELLS];
        /** CROWD and fallen ones by CELL: seat() and become() keep them true, so that no turn counts PEOPLE anew. */
        final int[] crowd = new int[MOST_CELLS], down = new int[MOST_CELLS];
        int people;
        final int[] kind = new int[MOST_PEOPLE], place = new int[MOST_PEOPLE];
        final int[] pace = new int[MOST_PEOPLE], hurts = new int[MOST_PEOPLE];
        int beasts;
        final int[] beastPlace = new int[MOST_BEASTS], beastPace = new int[MOST_BEASTS];
        final int[] alone = new int[MOST_BEASTS];
        final int[] rules = new int[RULE_FIRST.length];
        int tick;
        int z = 1;
        Laws laws;
        /** The CLAUSE that a TRIAL leaves out, or GONE. */
        int without = GONE;
        /** FACTS of whose turn it is. */
        final int[] facts = new int[FACTS];

        Street(Laws laws) {
            this.laws = laws;
            System.arraycopy(RULE_FIRST, 0, rules, 0, rules.length);
            lay(10);
        }

        void lay(int n) {
            cells = n;
            for (int what = WIDTH; what <= DOOR; what++) {
                for (int c = 0; c < MOST_CELLS; c++) traits[what][c] = TRAIT_FIRST[what];
            }
            for (int p = 0; p < people; p++) {
                if (place[p] >= n) seat(p, GONE);
            }
            for (int b = 0; b < beasts; b++) {
                if (beastPlace[b] >= n) beastPlace[b] = GONE;
            }
        }

        void copy(Street from) {
            cells = from.cells;
            for (int what = WIDTH; what <= DOOR; what++) copyRow(from.traits[what], traits[what]);
            copyRow(from.crowd, crowd);
            copyRow(from.down, down);
            people = from.people;
            copyRow(from.kind, kind);
            copyRow(from.place, place);
            copyRow(from.pace, pace);
            copyRow(from.hurts, hurts);
            beasts = from.beasts;
            copyRow(from.beastPlace, beastPlace);
            copyRow(from.beastPace, beastPace);
            copyRow(from.alone, alone);
            copyRow(from.rules, rules);
            tick = from.tick;
            z = from.z;
            laws = from.laws;
            without = GONE;
        }

        private static void copyRow(int[] from, int[] to) {
            System.arraycopy(from, 0, to, 0, Math.min(from.length, to.length));
        }

        boolean hasCell(int c) {
            return c >= 0 && c < cells;
        }

        boolean hasPerson(int p) {
            return p >= 0 && p < people;
        }

        boolean hasBeast(int b) {
            return b >= 0 && b < beasts;
        }

        boolean isOut(int p) {
            return place[p] < 0;
        }

        int addPerson(int itsKind, int c, int itsPace) {
            int p = people;
            people++;
            kind[p] = itsKind;
            pace[p] = itsPace;
            hurts[p] = 0;
            place[p] = GONE;
            seat(p, c);
            return p;
        }

        int addBeast(int c, int itsPace) {
            int b = beasts;
            beasts++;
            beastPlace[b] = c;
            beastPace[b] = itsPace;
            alone[b] = 0;
            return b;
        }

        void seat(int p, int c) {
            tally(p, -1);
            place[p] = c;
            tally(p, 1);
        }

        void become(int p, int newKind) {
            tally(p, -1);
            kind[p] = newKind;
            tally(p, 1);
        }

        private void tally(int p, int by) {
            int c = place[p];
            if (c < 0 || c >= MOST_CELLS) return;
            crowd[c] += by;
            down[c] += by * (UNDER[FALLEN] >> kind[p] & 1);
        }

        int crowdIn(int c) {
            return hasCell(c) ? crowd[c] : 0;
        }

        int beastsIn(int c) {
            int found = 0;
            for (int b = 0; b < beasts; b++) {
                if (beastPlace[b] == c) found++;
            }
            return found;
        }

        int nearOf(int p) {
            int near = WITHOUT_ONE;
            for (int b = 0; b < beasts; b++) {
                if (beastPlace[b] >= 0 && beastPlace[b] <= place[p]) near = Math.min(near, place[p] - beastPlace[b]);
            }
            return near;
        }

        int lone() {
            int found = 0;
            for (int b = 0; b < beasts; b++) {
                if (beastPlace[b] >= 0 && alone[b] == 1) found++;
            }
            return found;
        }

        int allHurts() {
            int sum = 0;
            for (int p = 0; p < people; p++) sum += hurts[p];
            return sum;
        }

        int peopleOut() {
            int found = 0;
            for (int p = 0; p < people; p++) {
                if (isOut(p)) found++;
            }
            return found;
        }

        /** CELLS with one who is heaped. */
        int heaps() {
            int set = 0;
            for (int p = 0; p < people; p++) {
                if (!isOut(p) && kind[p] == HEAPED) set |= 1 << place[p];
            }
            return Integer.bitCount(set);
        }

        int goOn(int n, Rows log) {
            int harm = 0;
            for (int i = 1; i <= n; i++) harm += tenth(i, log);
            return harm;
        }

        int tenth(int number, Rows log) {
            tick++;
            for (int b = 0; b < beasts; b++) {
                if (beastPlace[b] < 0) continue;
                if (alone[b] == 1) hunt(b);
                else gallop(b);
            }
            for (int p = 0; p < people; p++) {
                if (!isOut(p)) takeTurn(p, clauseFor(p));
            }
            int harm = 0;
            for (int p = 0; p < people; p++) {
                int more = isOut(p) ? 0 : sufferedBy(p);
                if (more > 0 && log != null) log.add(number, p, place[p]);
                harm += more;
            }
            heapUp();
            return harm;
        }

        private void gallop(int b) {
            for (int step = 0; step < beastPace[b]; step++) {
                int c = beastPlace[b] + 1;
                if (!hasCell(c)) {
                    beastPlace[b] = GONE;
                    return;
                }
                beastPlace[b] = c;
                if (slips(traits[SLIP][c])) {
                    alone[b] = 1;
                    return;
                }
            }
        }

        private boolean slips(int slip) {
            if (slip <= 0) return false;
            z = z * 1103515245 + 12345;
            return (z >>> 16) % 8 < slip;
        }

        private void hunt(int b) {
            int c = beastPlace[b];
            if (crowdIn(c) > 0) return;
            for (int far = 1; far <= rules[SIGHT]; far++) {
                // ahead is asked first: of two as near it goes towards the one ahead
                if (crowdIn(c + far) > 0) {
                    beastPlace[b] = c + 1;
                    return;
                }
                if (crowdIn(c - far) > 0) {
                    beastPlace[b] = c - 1;
                    return;
                }
            }
        }

        void lookAround(int p) {
            int c = place[p];
            facts[NEAR] = nearOf(p);
            facts[CROWD] = crowdIn(c);
            facts[AHEAD] = hasCell(c + 1) ? crowd[c + 1] : WITHOUT_ONE;
            facts[PLACE] = c;
            facts[TICK] = tick;
            facts[LONE] = lone();
        }

        /** GONE, if there is none. */
        int clauseFor(int p) {
            if (laws.count == 0) return GONE;
            lookAround(p);
            for (int k = 0; k < laws.count; k++) {
                if (k != without && isA(kind[p], laws.who[k]) && laws.holds(k, facts)) return k;
            }
            return GONE;
        }

        private void takeTurn(int p, int k) {
            int act = isA(kind[p], RUNNING) ? ACT_RUN : ACT_STAND;
            if (k >= 0 && k < laws.count) act = laws.acts[k];
            boolean atDoor = hasCell(place[p]) && traits[DOOR][place[p]] == 1;
            if (act == ACT_LEAVE && atDoor) {
                seat(p, GONE);
            } else if (act == ACT_RUN || act == ACT_LEAVE) {
                if (isA(kind[p], FALLEN)) rise(p);
                else goAhead(p);
            } else if (act == ACT_DOWN && !isA(kind[p], FALLEN)) {
                become(p, FALLEN);
            }
        }

        private void rise(int p) {
            boolean pinned = kind[p] == HEAPED && hasCell(place[p]) && down[place[p]] >= rules[HEAP];
            if (!pinned && nearOf(p) > rules[RISE]) become(p, RUNNING);
        }

        private void goAhead(int p) {
            int steps = pace[p];
            if (kind[p] == TOUCHING) steps++;
            if (kind[p] == NEW) steps = Math.max(1, steps - 1);
            for (int step = 0; step < steps; step++) {
                int c = place[p] + 1;
                if (!hasCell(c)) {
                    seat(p, GONE);
                    return;
                }
                if (crowd[c] >= traits[WIDTH][c] || down[c] >= rules[HEAP]) return;
                seat(p, c);
            }
        }

        private int sufferedBy(int p) {
            boolean met = false, metAlone = false;
            for (int b = 0; b < beasts; b++) {
                if (beastPlace[b] != place[p]) continue;
                met = true;
                if (alone[b] == 1) metAlone = true;
            }
            if (!met) return 0;
            int more = HURT_OF[kind[p]] + (metAlone ? 1 : 0);
            hurts[p] += more;
            if (more > 0 && isA(kind[p], RUNNING)) become(p, FALLEN);
            return more;
        }

        private void heapUp() {
            for (int p = 0; p < people; p++) {
                if (isOut(p) || !isA(kind[p], FALLEN)) continue;
                if (hasCell(place[p]) && down[place[p]] >= rules[HEAP]) become(p, HEAPED);
            }
        }
    }

    /** CLAUSES as they were read; never changed, so that streets may share them. */
    private static final class Laws {
        static final int LESS = 0, SAME = 1, MORE = 2, AND = 3, OR = 4, NOT = 5;
        /** VALUES below are NUMBERS, from here on FACTS. */
        static final int FACT_VALUES = 10000;
        /** A step is one int: its sort, and below it the VALUES that it compares. */
        static final int VALUE_BITS = 14;
        private static final int VALUE_MASK = (1 << VALUE_BITS) - 1;

        final int count;
        final int[] who, acts;
        /** Where in steps the COND of a CLAUSE ends, and that of the next begins. */
        private final int[] ends;
        /** CONDS, what is joined ahead of what joins it. */
        private final int[] steps;

        Laws(int count, int[] who, int[] acts, int[] ends, int[] steps) {
            this.count = count;
            this.who = who;
            this.acts = acts;
            this.ends = ends;
            this.steps = steps;
        }

        boolean holds(int k, int[] facts) {
            // a stack of truths, the latest lowest: three "(" keep it below 12; a CLAUSE without COND finds the first 1
            int truths = 1;
            int end = Math.min(ends[k], steps.length);
            for (int i = k == 0 ? 0 : ends[k - 1]; i < end; i++) truths = after(steps[i], truths, facts);
            return (truths & 1) == 1;
        }

        private static int after(int step, int truths, int[] facts) {
            int sort = step >>> (2 * VALUE_BITS);
            if (sort == NOT) return truths ^ 1;
            if (sort == AND) return truths >>> 1 & (truths | ~1);
            if (sort == OR) return truths >>> 1 | truths & 1;
            int left = valueOf(step >>> VALUE_BITS & VALUE_MASK, facts);
            int right = valueOf(step & VALUE_MASK, facts);
            boolean holds = sort == LESS ? left < right : sort == SAME ? left == right : left > right;
            return truths << 1 | (holds ? 1 : 0);
        }

        private static int valueOf(int value, int[] facts) {
            int what = value - FACT_VALUES;
            return what >= 0 && what < facts.length ? facts[what] : value;
        }
    }

    /** Reads LAWS from bytes; its rows are made once and used for every TEXT. */
    private static final class Reader {
        /** FACTS, WHO (numbered as KINDS are; all for person), ACTS, each in the order of their numbers; what joins. */
        private static final String WORDS =
                "near crowd ahead place tick lone all running standing fallen touching new heaped leaving run stand leave down if or and not";
        /** Tokens: a NUMBER is its value, a NAME its place in WORDS from WORD on, another byte itself from SIGN on. */
        private static final int WORD = Laws.FACT_VALUES, SIGN = 20000, END = -1, STRANGE = -2;
        private static final int WORD_WHO = WORD + FACTS, WORD_ACT = WORD_WHO + 8, WORD_IF = WORD_ACT + 4,
                WORD_OR = WORD_IF + 1, WORD_AND = WORD_IF + 2, WORD_NOT = WORD_IF + 3;
        private static final int SORT_BLANK = 0, SORT_LETTER = 1, SORT_DIGIT = 2, SORT_OTHER = 3;

        /** One more than bytes: the end is a token, too. */
        private final int[] tokens = new int[MOST_BYTES + 1], places = new int[MOST_BYTES + 1];
        private final int[] lengths = new int[MOST_BYTES + 1];
        private int count, at;
        private final int[] who = new int[MOST_CLAUSES], acts = new int[MOST_CLAUSES], ends = new int[MOST_CLAUSES];
        private final int[] steps = new int[MOST_BYTES];
        private int clauses, used;

        boolean reads(byte[] bytes, int n) {
            part(bytes, n);
            at = 0;
            used = 0;
            for (clauses = 0; clauses < MOST_CLAUSES && token() != END; clauses++) {
                if (!clause()) return false;
            }
            return token() == END;
        }

        int fault() {
            return places[at];
        }

        Laws lawsRead() {
            return new Laws(clauses, who.clone(), acts.clone(), ends.clone(), Arrays.copyOf(steps, used));
        }

        private void part(byte[] bytes, int n) {
            count = 0;
            int before = SORT_BLANK;
            for (int i = 0; i < n; i++) {
                int sort = sortOf(bytes[i]);
                if (sort == SORT_OTHER || sort != SORT_BLANK && sort != before) {
                    places[count] = i;
                    lengths[count] = 0;
                    count++;
                }
                if (sort != SORT_BLANK && count > 0) lengths[count - 1]++;
                before = sort;
            }
            for (int i = 0; i < count; i++) tokens[i] = tokenAt(bytes, places[i], lengths[i]);
            places[count] = n;
            tokens[count] = END;
        }

        private static int sortOf(int sign) {
            if (sign == ' ') return SORT_BLANK;
            if (sign >= 'a' && sign <= 'z') return SORT_LETTER;
            return sign >= '0' && sign <= '9' ? SORT_DIGIT : SORT_OTHER;
        }

        private static int tokenAt(byte[] bytes, int from, int length) {
            int sort = sortOf(bytes[from]);
            if (sort == SORT_LETTER) return wordAt(bytes, from, length);
            if (sort == SORT_OTHER) return bytes[from] < 0 ? STRANGE : SIGN + bytes[from];
            if (length > 4) return STRANGE;
            int number = 0;
            for (int i = 0; i < length; i++) number = number * 10 + (bytes[from + i] - '0');
            return number;
        }

        private static int wordAt(byte[] bytes, int from, int length) {
            int word = 0;
            int alike = 0;
            for (int i = 0; i < WORDS.length(); i++) {
                char sign = WORDS.charAt(i);
                if (sign == ' ') {
                    if (alike == length) return WORD + word;
                    word++;
                    alike = 0;
                } else if (alike >= 0 && alike < length && bytes[from + alike] == sign) {
                    alike++;
                } else {
                    alike = -1;
                }
            }
            return alike == length ? WORD + word : STRANGE;
        }

        private int token() {
            return tokens[at];
        }

        /** The end is never passed, so that fault() finds its place. */
        private void pass() {
            if (at < count) at++;
        }

        private boolean passes(int wanted) {
            if (tokens[at] != wanted) return false;
            if (at < count) at++;
            return true;
        }

        // of the parts of a TEXT below: each stands, when it answers false, before the token that can't stand there

        private boolean clause() {
            if (token() < WORD_WHO || token() >= WORD_ACT) return false;
            who[clauses] = token() - WORD_WHO;
            pass();
            if (token() < WORD_ACT || token() >= WORD_IF) return false;
            acts[clauses] = token() - WORD_ACT;
            pass();
            if (passes(WORD_IF) && !condition(0)) return false;
            ends[clauses] = used;
            return passes(SIGN + ';');
        }

        private boolean condition(int open) {
            if (!allOf(open)) return false;
            for (int turn = 0; turn < count && passes(WORD_OR); turn++) {
                if (!allOf(open)) return false;
                addStep(Laws.OR, 0, 0);
            }
            return true;
        }

        private boolean allOf(int open) {
            if (!oneOf(open)) return false;
            for (int turn = 0; turn < count && passes(WORD_AND); turn++) {
                if (!oneOf(open)) return false;
                addStep(Laws.AND, 0, 0);
            }
            return true;
        }

        private boolean oneOf(int open) {
            boolean turned = false;
            for (int turn = 0; turn < count && passes(WORD_NOT); turn++) turned = !turned;
            if (token() == SIGN + '(') {
                if (open >= MOST_OPEN) return false;
                pass();
                if (!condition(open + 1) || !passes(SIGN + ')')) return false;
            } else if (!comparison()) {
                return false;
            }
            if (turned) addStep(Laws.NOT, 0, 0);
            return true;
        }

        private boolean comparison() {
            int left = token();
            if (!isValue(left)) return false;
            pass();
            // the bytes <, =, > follow one another as LESS, SAME, MORE do
            int sort = token() - SIGN - '<';
            if (sort < Laws.LESS || sort > Laws.MORE) return false;
            pass();
            int right = token();
            if (!isValue(right)) return false;
            pass();
            addStep(sort, left, right);
            return true;
        }

        private static boolean isValue(int token) {
            return token >= 0 && token < WORD_WHO;
        }

        private void addStep(int sort, int left, int right) {
            if (used >= steps.length) return;
            steps[used] = sort << (2 * Laws.VALUE_BITS) | left << Laws.VALUE_BITS | right;
            used++;
        }
    }

    /** The first HARMS of a TRIAL. */
    private static final class Rows {
        int count;
        /** By TENTH, PERSON, CELL, and by ROW. */
        final int[][] parts = new int[3][MOST_ROWS];

        void add(int tenth, int person, int cell) {
            if (count >= MOST_ROWS) return;
            parts[0][count] = tenth;
            parts[1][count] = person;
            parts[2][count] = cell;
            count++;
        }

        boolean has(int i, int what) {
            return i >= 0 && i < count && what >= 0 && what < parts.length;
        }

        boolean sameAt(int i, Rows other) {
            if (i >= count || i >= other.count) return false;
            for (int what = 0; what < parts.length; what++) {
                if (parts[what][i] != other.parts[what][i]) return false;
            }
            return true;
        }
    }

    /** A row of a sort; an int has room for what put() can put in, longs too. */
    private static final class Sheet {
        final int sort;
        final int[] items;

        Sheet(int sort, int n) {
            this.sort = sort;
            items = new int[Math.max(0, n)];
        }

        boolean has(int i) {
            return i >= 0 && i < items.length;
        }

        int narrowed(int v) {
            if (sort == BYTES) return (byte) v;
            if (sort == SHORTS) return (short) v;
            if (sort == BOOLEANS) return v != 0 ? 1 : 0;
            return v;
        }
    }

    /** ACTS of a thing: as is the KIND whose bodies are asked, above the thing's own where it is asked by super. */
    private static final class Bodies {
        int count;
        final int[] ran = new int[MOST_BODIES];
        private int kind, n, a;
        private boolean parted;

        int answer(int itsKind, int number, int pace, int act, int x) {
            kind = itsKind;
            n = number;
            a = pace;
            count = 0;
            parted = false;
            int answer;
            if (act == 0) answer = runs(kind, x);
            else if (act == 1) answer = sees(kind, x);
            else if (act == 2) answer = falls(kind, x);
            else answer = harms(kind, x);
            return parted ? BY_ZERO : answer;
        }

        private void began(int body) {
            if (count >= MOST_BODIES || parted) return;
            ran[count] = body;
            count++;
        }

        private int runs(int as, int x) {
            switch (as) {
                case RUNNING:
                case NEW:
                    began(20);
                    return runs(PERSON, x) * 3;
                case TOUCHING:
                    began(50);
                    return runs(RUNNING, x) ^ n;
                case HEAPED:
                    began(71);
                    return runs(FALLEN, x) - 5;
                case BEAST:
                    began(90);
                    return a - x;
                default:
                    began(10);
                    return x + a;
            }
        }

        private int sees(int as, int x) {
            switch (as) {
                case STANDING:
                    began(30);
                    return sees(PERSON, x) - a;
                case NEW:
                    began(60);
                    return 0 - sees(RUNNING, x);
                case LEAVING:
                    began(81);
                    return sees(STANDING, x) + runs(kind, n);
                case BEAST:
                    began(91);
                    return runs(kind, x) * n;
                default:
                    began(11);
                    return runs(kind, x) * 2;
            }
        }

        private int falls(int as, int x) {
            switch (as) {
                case FALLEN:
                    began(40);
                    return falls(PERSON, x + 1);
                case HEAPED:
                    began(70);
                    return falls(FALLEN, x) ^ 1;
                case BEAST:
                    began(92);
                    return x | a;
                default:
                    began(12);
                    return partedBy(x, a - n);
            }
        }

        private int harms(int as, int x) {
            switch (as) {
                case TOUCHING:
                    began(51);
                    return harms(RUNNING, x) + falls(kind, n);
                case LEAVING:
                    began(80);
                    return harms(STANDING, x) * 2;
                case BEAST:
                    began(93);
                    return sees(kind, x) - falls(kind, n);
                default:
                    began(13);
                    return sees(kind, x) ^ n;
            }
        }

        private int partedBy(int x, int by) {
            if (by == 0) {
                parted = true;
                return 0;
            }
            return x / by;
        }
    }
}
