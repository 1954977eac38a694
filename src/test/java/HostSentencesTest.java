/** 'Terms', ======== 4 from the ACTS of a thing on, and promises 29 to 39, sentence by sentence. */
public final class HostSentencesTest {
    private static final int LOW = Sentences.LOW, HIGH = Sentences.HIGH, BAD = Sentences.BAD, NONE = Sentences.NONE, GONE = Sentences.GONE;
    private static final int NOTHING = Sentences.NOTHING, OUTSIDE = Sentences.OUTSIDE, OTHER_SORT = Sentences.OTHER_SORT;
    private static final int BELOW_ZERO = Sentences.BELOW_ZERO, BY_ZERO = Sentences.BY_ZERO, BEAST = 8;
    private static final int[] NUMBERS = {0, 1, -1, 5, -7, 7, 0x3FFFFFFF, 0x40000000, 0x7FFFFFFE, HIGH, LOW, LOW + 1};

    private static void due(BullStreet x, String call, int want) { Sentences.due(x, call, want); }

    private static void dueEach(BullStreet x, String call, int want, int... values) { Sentences.dueEach(x, call, want, values); }

    private static void dueAll(BullStreet x, String call, int... wants) { Sentences.dueAll(x, call, wants); }

    private static BullStreet after(String... calls) { return Sentences.after(calls); }

    // ---- acts

    /** On SHELF 0 PERSON n (or BEAST n) of this KIND and PACE. */
    private static BullStreet thing(int kind, int n, int pace) {
        BullStreet x = new BullStreet();
        for (int i = 0; i <= n; i++) {
            if (kind == BEAST) x.beast(0, i < n ? 1 : pace);
            else x.person(i < n ? 2 : kind, 0, i < n ? 1 : pace);
        }
        return Sentences.then(x, "shelf(0, " + (kind == BEAST ? 1 : 0) + ", " + n + ")");
    }

    private static int runs(int kind, int n, int a, int x) {
        return switch (kind) {
            case 1, 5 -> (x + a) * 3;
            case 4 -> (x + a) * 3 ^ n;
            case 6 -> x + a - 5;
            case BEAST -> a - x;
            default -> x + a;
        };
    }

    private static int sees(int kind, int n, int a, int x) {
        int runs = runs(kind, n, a, x);
        return switch (kind) {
            case 2 -> runs * 2 - a;
            case 5 -> -(runs * 2);
            case 7 -> runs * 2 - a + (n + a);
            case BEAST -> runs * n;
            default -> runs * 2;
        };
    }

    /** For a that isn't n. */
    private static int falls(int kind, int n, int a, int x) {
        return switch (kind) {
            case 3 -> (x + 1) / (a - n);
            case 6 -> (x + 1) / (a - n) ^ 1;
            case BEAST -> x | a;
            default -> x / (a - n);
        };
    }

    private static int harms(int kind, int n, int a, int x) {
        int sees = sees(kind, n, a, x);
        return switch (kind) {
            case 4 -> (sees ^ n) + n / (a - n);
            case 7 -> (sees ^ n) * 2;
            case BEAST -> sees - (n | a);
            default -> sees ^ n;
        };
    }

    private static int acts(int act, int kind, int n, int a, int x) {
        boolean divides = kind != BEAST && (act == 2 || act == 3 && kind == 4);
        if (divides && a == n) return BY_ZERO;
        return act == 0 ? runs(kind, n, a, x) : act == 1 ? sees(kind, n, a, x) : act == 2 ? falls(kind, n, a, x) : harms(kind, n, a, x);
    }

    /** Every ACT of things of a KIND, with numbers at whose ends ints wrap. */
    private static void actsOf(int kind) {
        for (int n = 0; n <= 4; n++) {
            for (int a = 1; a <= (kind == BEAST ? 4 : 3); a++) {
                BullStreet x = thing(kind, n, a);
                for (int act = 0; act < 4; act++) {
                    for (int v : NUMBERS) {
                        Sentences.due("KIND " + kind + ", n " + n + ", a " + a + ": act(0, " + act + ", " + v + ")", x.act(0, act, v), acts(act, kind, n, a, v));
                    }
                }
            }
        }
    }

    private static void intsWrap() {
        // the numbers written out, of PERSON 0 and BEAST 5
        due(thing(2, 0, 1), "act(0, 0, HIGH)", LOW);
        due(thing(1, 0, 1), "act(0, 0, HIGH)", LOW);
        due(thing(1, 0, 1), "act(0, 0, 1073741823)", -1073741824);
        due(thing(3, 0, 1), "act(0, 1, 1073741823)", LOW);
        due(thing(3, 0, 1), "act(0, 2, HIGH)", LOW);
        due(thing(2, 0, 1), "act(0, 1, 1073741823)", HIGH);
        due(thing(5, 0, 2), "act(0, 1, HIGH)", -6);
        due(thing(6, 0, 1), "act(0, 0, LOW)", HIGH - 3);
        due(thing(7, 0, 1), "act(0, 3, 1073741823)", 0);
        due(thing(BEAST, 5, 4), "act(0, 0, LOW)", LOW + 4);
        due(thing(BEAST, 5, 4), "act(0, 1, HIGH)", -HIGH + 24);
        due(thing(1, 2, 1), "act(0, 2, LOW)", LOW);
    }

    private static void quotientsAreCutTowardsZero() {
        // a - n is 2, then -2, then -1
        BullStreet x = thing(1, 1, 3), y = thing(1, 4, 2), z = thing(1, 2, 1);
        int[][] told = {{7, 3, -3, -7}, {-7, -3, 3, 7}, {1, 0, 0, -1}, {-1, 0, 0, 1}, {8, 4, -4, -8}, {LOW, -1073741824, 1073741824, LOW}, {HIGH, 1073741823, -1073741823, -HIGH}};
        for (int[] each : told) {
            due(x, "act(0, 2, " + each[0] + ")", each[1]);
            due(y, "act(0, 2, " + each[0] + ")", each[2]);
            due(z, "act(0, 2, " + each[0] + ")", each[3]);
        }
    }

    private static void partedByZero() {
        int[][] falls = {{12}, {12}, {40, 12}, {12}, {12}, {70, 40, 12}, {12}};
        for (int kind = 1; kind <= 7; kind++) {
            for (int a = 1; a <= 3; a++) {
                BullStreet x = thing(kind, a, a);
                for (int v : new int[] {0, 1, LOW}) due(x, "act(0, 2, " + v + ")", BY_ZERO);
                // the bodies that began are those of the latest act()
                due(x, "many(6)", falls[kind - 1].length);
                dueAll(x, "trace(?)", falls[kind - 1]);
            }
        }
        BullStreet y = thing(4, 2, 2);
        due(y, "act(0, 3, 7)", BY_ZERO);
        dueAll(y, "trace(?)", 51, 13, 11, 50, 20, 10, 12, NONE);
        due(y, "act(0, 0, 7)", 25);
        due(thing(BEAST, 2, 2), "act(0, 2, 7)", 7);
    }

    private static void traceIsAsTheyBegan() {
        int[][][] bodies = {
            {{20, 10}, {11, 20, 10}, {12}, {13, 11, 20, 10}},
            {{10}, {30, 11, 10}, {12}, {13, 30, 11, 10}},
            {{10}, {11, 10}, {40, 12}, {13, 11, 10}},
            {{50, 20, 10}, {11, 50, 20, 10}, {12}, {51, 13, 11, 50, 20, 10, 12}},
            {{20, 10}, {60, 11, 20, 10}, {12}, {13, 60, 11, 20, 10}},
            {{71, 10}, {11, 71, 10}, {70, 40, 12}, {13, 11, 71, 10}},
            {{10}, {81, 30, 11, 10, 10}, {12}, {80, 13, 81, 30, 11, 10, 10}},
            {{90}, {91, 90}, {92}, {93, 91, 90, 92}}};
        for (int kind = 1; kind <= BEAST; kind++) {
            BullStreet x = thing(kind, 0, 1);
            for (int act = 0; act < 4; act++) {
                int[] want = bodies[kind - 1][act];
                x.act(0, act, 9);
                due(x, "many(6)", want.length);
                dueAll(x, "trace(?)", want);
                dueEach(x, "trace(?)", NONE, want.length, 29, 30, -1);
            }
        }
    }

    private static void traceIsOfTheLatest() {
        BullStreet x = thing(4, 0, 1);
        dueEach(x, "trace(?)", NONE, 0, -1, 29, 30, LOW, HIGH);
        x.act(0, 3, 1);
        due(x, "trace(6)", 12);
        x.act(0, 2, 1);
        dueAll(x, "trace(?)", 12, NONE);
        dueEach(x, "trace(?)", NONE, -1, 30, LOW, HIGH);
    }

    private static void actAnswersZero() {
        for (String call : new String[] {"act(-1, 0, 7)", "act(4, 0, 7)", "act(LOW, 0, 7)", "act(HIGH, 0, 7)", "act(0, -1, 7)", "act(0, 4, 7)",
            "act(0, LOW, 7)", "act(0, HIGH, 7)", "act(1, 0, 7)", "act(2, 0, 7)", "act(3, 2, 7)"}) {
            BullStreet x = Sentences.then(thing(4, 0, 1), "sheet(0, 0, 3)", "shelf(2, 2, 0)", "keep()", "beast(0, 1)", "shelf(3, 1, 0)", "again()");
            due(x, "act(0, 3, 7)", 48);
            due(x, "many(6)", 7);
            due(x, call, 0);
            due(x, "many(6)", 0);
            due(x, "trace(0)", NONE);
        }
    }

    private static void actIsOfTheKindThatHeIsThen() {
        BullStreet x = thing(1, 1, 1);
        due(x, "act(0, 0, 7)", 24);
        x.moves(1, 0, 6);
        due(x, "act(0, 0, 7)", 3);
        // one who is OUT acts as well
        x.moves(1, 9, 1);
        x.run(1);
        due(x, "personOf(1, 1)", GONE);
        due(x, "act(0, 0, 7)", 24);
    }

    // ---- sheets

    private static void sheetsAreFour() {
        BullStreet x = new BullStreet();
        for (int s = 0; s < 4; s++) {
            for (int sort = 0; sort < 5; sort++) {
                due(x, "sheet(" + s + ", " + sort + ", " + (sort + s) + ")", 1);
                for (int as = 0; as < 5; as++) due(x, "item(" + s + ", " + as + ", " + (sort + s) + ")", as == sort ? OUTSIDE : OTHER_SORT);
            }
        }
        dueEach(x, "sheet(?, 2, 1)", BAD, -1, 4);
    }

    private static void sheetsAreMissingAtFirst() {
        BullStreet x = new BullStreet();
        for (int sort = 0; sort < 5; sort++) dueEach(x, "item(?, " + sort + ", 0)", NOTHING, 0, 1, 2, 3);
        dueEach(x, "put(?, 0, 1)", NOTHING, 0, 1, 2, 3);
        dueEach(x, "widths(?, 0, 0)", NOTHING, 0, 1, 2, 3);
    }

    private static void sheetBecomesARow() {
        for (int sort = 0; sort < 5; sort++) {
            BullStreet x = new BullStreet();
            for (int n : new int[] {0, 1, 39, 40}) {
                due(x, "sheet(3, " + sort + ", " + n + ")", 1);
                for (int i = 0; i < n; i++) if (i < 2 || i > n - 3) due(x, "item(3, " + sort + ", " + i + ")", 0);
                due(x, "item(3, " + sort + ", " + n + ")", OUTSIDE);
                if (n > 0) due(x, "put(3, " + (n - 1) + ", 1)", 1);
            }
            // all 0 again
            due(x, "sheet(3, " + sort + ", 40)", 1);
            due(x, "item(3, " + sort + ", 39)", 0);
        }
    }

    private static void sheetBecomesMissing() {
        BullStreet x = after("sheet(1, 2, 3)", "sheet(2, 2, 3)");
        for (int n : new int[] {0, 1, 40, 41, -1, LOW, HIGH}) {
            due(x, "sheet(1, -1, " + n + ")", 1);
            due(x, "item(1, 2, 0)", NOTHING);
            due(x, "item(2, 2, 0)", 0);
            due(x, "sheet(1, 2, 1)", 1);
            due(x, "item(1, 2, 0)", 0);
        }
        due(x, "sheet(3, -1, 0)", 1);
    }

    private static void sheetRefuses() {
        BullStreet x = after("sheet(0, 2, 3)", "put(0, 1, 55)");
        dueEach(x, "sheet(?, 0, 1)", BAD, -1, 4, LOW, HIGH);
        dueEach(x, "sheet(?, -1, 1)", BAD, -1, 4, LOW, HIGH);
        dueEach(x, "sheet(0, ?, 1)", BAD, -2, 5, LOW, HIGH);
        dueEach(x, "sheet(0, 0, ?)", BAD, 41, 42, HIGH);
        dueEach(x, "sheet(0, 0, ?)", BELOW_ZERO, -1, -40, LOW);
        // BAD ahead of -14
        due(x, "sheet(4, 0, -1)", BAD);
        due(x, "sheet(0, 5, -1)", BAD);
        due(x, "sheet(0, -2, -1)", BAD);
        due(x, "item(0, 2, 1)", 55);
    }

    private static void putNarrows() {
        int[] values = {0, 1, -1, 127, 128, 129, 255, 256, 257, -128, -129, 32767, 32768, 65535, 65536, -32768, -32769, HIGH, LOW};
        int[] bytes = {0, 1, -1, 127, -128, -127, -1, 0, 1, -128, 127, -1, 0, -1, 0, 0, -1, -1, 0};
        int[] shorts = {0, 1, -1, 127, 128, 129, 255, 256, 257, -128, -129, 32767, -32768, -1, 0, -32768, 32767, -1, 0};
        BullStreet x = after("sheet(0, 0, 2)", "sheet(1, 1, 2)", "sheet(2, 2, 2)", "sheet(3, 3, 2)"), y = after("sheet(0, 4, 2)");
        for (int i = 0; i < values.length; i++) {
            for (int s = 0; s < 4; s++) {
                due(x, "put(" + s + ", 1, " + values[i] + ")", 1);
                due(x, "item(" + s + ", " + s + ", 1)", s == 0 ? bytes[i] : s == 1 ? shorts[i] : values[i]);
            }
            due(y, "put(0, 1, " + values[i] + ")", 1);
            due(y, "item(0, 4, 1)", values[i] == 0 ? 0 : 1);
        }
        for (int s = 0; s < 4; s++) due(x, "item(" + s + ", " + s + ", 0)", 0);
    }

    private static void putRefuses() {
        BullStreet x = after("sheet(0, 0, 40)", "sheet(1, 3, 1)", "sheet(2, 4, 0)");
        dueEach(x, "put(?, 0, 1)", BAD, -1, 4, LOW, HIGH);
        dueEach(x, "put(?, -1, 1)", BAD, -1, 4);
        dueEach(x, "put(3, ?, 1)", NOTHING, 0, -1, 40, LOW, HIGH);
        dueEach(x, "put(0, ?, 1)", OUTSIDE, -1, 40, LOW, HIGH);
        dueEach(x, "put(1, ?, 1)", OUTSIDE, -1, 1, LOW, HIGH);
        dueEach(x, "put(2, ?, 1)", OUTSIDE, -1, 0, LOW, HIGH);
        dueEach(x, "put(0, ?, 1)", 1, 0, 39);
        due(x, "item(0, 0, 38)", 0);
    }

    private static void itemRefuses() {
        BullStreet x = after("sheet(0, 0, 40)", "sheet(1, 3, 1)", "sheet(2, 4, 0)");
        dueEach(x, "item(?, 0, 0)", BAD, -1, 4, LOW, HIGH);
        dueEach(x, "item(0, ?, 0)", BAD, -1, 5, LOW, HIGH);
        // BAD ahead of all, of a missing one, too
        dueEach(x, "item(3, ?, 99)", BAD, -1, 5, LOW, HIGH);
        for (int sort = 0; sort < 5; sort++) {
            dueEach(x, "item(3, " + sort + ", ?)", NOTHING, 0, -1, 40, LOW, HIGH);
            dueEach(x, "item(0, " + sort + ", ?)", sort == 0 ? OUTSIDE : OTHER_SORT, -1, 40, LOW, HIGH);
            dueEach(x, "item(1, " + sort + ", ?)", sort == 3 ? OUTSIDE : OTHER_SORT, -1, 1, LOW, HIGH);
            dueEach(x, "item(2, " + sort + ", ?)", sort == 4 ? OUTSIDE : OTHER_SORT, -1, 0, LOW, HIGH);
        }
        dueEach(x, "item(0, ?, 0)", OTHER_SORT, 1, 2, 3, 4);
    }

    private static void itemsMayBeAsLow() {
        BullStreet x = after("sheet(0, 0, 6)", "sheet(1, 1, 6)", "sheet(2, 2, 6)", "sheet(3, 3, 6)");
        int[] low = {BAD, NOTHING, OUTSIDE, OTHER_SORT, BELOW_ZERO, BY_ZERO};
        for (int s = 0; s < 4; s++) {
            for (int i = 0; i < low.length; i++) due(x, "put(" + s + ", " + i + ", " + low[i] + ")", 1);
            dueAll(x, "item(" + s + ", " + s + ", ?)", low);
        }
    }

    // ---- widths

    private static BullStreet bytes(int cells, int... items) {
        BullStreet x = after("street(" + cells + ")", "sheet(0, 0, " + items.length + ")");
        for (int i = 0; i < items.length; i++) x.put(0, i, items[i]);
        return x;
    }

    private static void widthsFromItemAndCellZero() {
        BullStreet x = bytes(5, 9, 8, 7, 6, 5, 4, 2, 1);
        due(x, "widths(0, 0, 0)", 0);
        dueAll(x, "cellOf(?, 0)", 3, 3, 3, 3, 3);
        due(x, "widths(0, 0, 1)", 1);
        dueAll(x, "cellOf(?, 0)", 9, 3, 3, 3, 3);
        due(x, "widths(0, 5, 3)", 3);
        dueAll(x, "cellOf(?, 0)", 4, 2, 1, 3, 3);
        due(x, "widths(0, 7, 1)", 1);
        dueAll(x, "cellOf(?, 0)", 1, 2, 1, 3, 3);
    }

    private static void widthsLeavesOutWhatCellRefuses() {
        BullStreet x = bytes(6, 1, 0, 9, 10, -1, 265);
        due(x, "widths(0, 0, 6)", 3);
        dueAll(x, "cellOf(?, 0)", 1, 3, 9, 3, 3, 9);
        due(bytes(3, 0, 10, -128), "widths(0, 0, 3)", 0);
    }

    private static void widthsLeavesOutWhatLiesBehind() {
        BullStreet x = bytes(2, 5, 6, 7, 8);
        due(x, "widths(0, 0, 4)", 2);
        dueAll(x, "cellOf(?, 0)", 5, 6, BAD);
        due(x, "street(4)", 4);
        dueAll(x, "cellOf(?, 0)", 3, 3, 3, 3);
        int[] forty = new int[40];
        for (int i = 0; i < 40; i++) forty[i] = 1 + i % 9;
        BullStreet y = bytes(30, forty);
        due(y, "widths(0, 10, 30)", 30);
        due(y, "cellOf(0, 0)", 2);
        due(y, "cellOf(29, 0)", 4);
        BullStreet z = bytes(29, forty);
        due(z, "widths(0, 0, 30)", 29);
    }

    private static void widthsRefuses() {
        BullStreet x = Sentences.then(bytes(5, 1, 1, 1), "sheet(1, 1, 3)", "sheet(2, 4, 3)");
        dueEach(x, "widths(?, 0, 1)", BAD, -1, 4, LOW, HIGH);
        dueEach(x, "widths(0, 0, ?)", BAD, -1, 31, LOW, HIGH);
        // BAD ahead of -13 and -11; -13 with n 0 and with a place outside
        dueEach(x, "widths(1, 0, ?)", BAD, -1, 31);
        dueEach(x, "widths(3, 0, ?)", BAD, -1, 31);
        dueEach(x, "widths(1, ?, 1)", OTHER_SORT, 0, 3, -1, LOW, HIGH);
        dueEach(x, "widths(2, 0, ?)", OTHER_SORT, 0, 1, 30);
        dueAll(x, "cellOf(?, 0)", 3, 3, 3, 3, 3);
    }

    private static void widthsOfAMissingOne() {
        BullStreet x = new BullStreet();
        dueEach(x, "widths(0, 0, ?)", NOTHING, 0, 1, 30);
        dueEach(x, "widths(0, ?, 0)", NOTHING, -1, 40, LOW, HIGH);
        BullStreet y = Sentences.then(bytes(5, 1), "sheet(0, -1, 0)");
        due(y, "widths(0, 0, 0)", NOTHING);
    }

    private static void widthsOutside() {
        BullStreet x = bytes(5, 9, 8, 7);
        due(x, "widths(0, 1, 3)", OUTSIDE);
        dueAll(x, "cellOf(?, 0)", 8, 7, 3, 3, 3);
        due(x, "widths(0, 0, 4)", OUTSIDE);
        dueAll(x, "cellOf(?, 0)", 9, 8, 7, 3, 3);
        dueEach(x, "widths(0, ?, 1)", OUTSIDE, -1, 3, LOW, HIGH);
        // a place below 0 is outside at once, though the next ones aren't
        dueEach(x, "widths(0, ?, 4)", OUTSIDE, -1, -3, HIGH, HIGH - 1, LOW);
        dueAll(x, "cellOf(?, 0)", 9, 8, 7, 3, 3);
        // with n 0 no item is asked for
        dueEach(x, "widths(0, ?, 0)", 0, 0, 3, -1, LOW, HIGH);
        // an item that isn't there is outside, too, where it would lie behind the last CELL
        BullStreet y = bytes(2, 9, 8, 7);
        due(y, "widths(0, 0, 4)", OUTSIDE);
        dueAll(y, "cellOf(?, 0)", 9, 8);
        due(bytes(2), "widths(0, 0, 1)", OUTSIDE);
    }

    // ---- shelves

    private static void shelvesHoldNothingAtFirst() {
        BullStreet x = new BullStreet();
        for (int as : new int[] {0, 1, 7, 8, 10, 14}) dueEach(x, "taken(?, " + as + ")", NOTHING, 0, 1, 2, 3);
        for (int s = 0; s < 4; s++) dueEach(x, "act(" + s + ", ?, 7)", 0, 0, 1, 2, 3);
    }

    private static void shelfHolds() {
        BullStreet x = after("person(5, 1, 1)", "person(2, 1, 1)", "beast(0, 1)", "beast(0, 1)", "sheet(3, 1, 7)");
        dueEach(x, "shelf(?, 0, 1)", 1, 0, 3);
        dueEach(x, "taken(?, 2)", 1, 0, 3);
        dueEach(x, "taken(?, 2)", NOTHING, 1, 2);
        due(x, "shelf(3, 1, 1)", 1);
        due(x, "taken(3, 8)", 1);
        due(x, "shelf(3, 2, 3)", 1);
        due(x, "taken(3, 11)", 7);
        due(x, "shelf(3, 3, 0)", 1);
        due(x, "taken(3, 11)", NOTHING);
        due(x, "shelf(0, 2, 0)", 1);
        dueEach(x, "taken(0, ?)", NOTHING, 0, 2, 10);
        // nothing is held whatever n is
        due(x, "shelf(1, 0, 0)", 1);
        dueEach(x, "shelf(1, 3, ?)", 1, 0, -1, 99, LOW, HIGH);
        due(x, "taken(1, 0)", NOTHING);
    }

    private static void shelfRefuses() {
        BullStreet x = after("person(5, 1, 1)", "beast(0, 1)", "shelf(0, 0, 0)");
        dueEach(x, "shelf(?, 0, 0)", BAD, -1, 4, LOW, HIGH);
        dueEach(x, "shelf(?, 3, 0)", BAD, -1, 4, LOW, HIGH);
        dueEach(x, "shelf(0, ?, 0)", BAD, -1, 4, LOW, HIGH);
        dueEach(x, "shelf(0, 0, ?)", BAD, -1, 1, 20, LOW, HIGH);
        dueEach(x, "shelf(0, 1, ?)", BAD, -1, 1, 6, LOW, HIGH);
        dueEach(x, "shelf(0, 2, ?)", BAD, -1, 4, LOW, HIGH);
        due(x, "taken(0, 5)", 0);
    }

    private static void shelfHoldsTheRow() {
        BullStreet x = after("sheet(0, 0, 3)", "shelf(0, 2, 0)");
        due(x, "taken(0, 10)", 3);
        due(x, "sheet(0, 2, 5)", 1);
        due(x, "taken(0, 10)", 3);
        due(x, "taken(0, 12)", OTHER_SORT);
        due(x, "sheet(0, -1, 0)", 1);
        due(x, "taken(0, 10)", 3);
        due(x, "shelf(0, 2, 0)", 1);
        due(x, "taken(0, 10)", NOTHING);
        // a SHEET that comes later isn't held by a SHELF that was given a missing one
        due(x, "sheet(0, 0, 3)", 1);
        due(x, "taken(0, 10)", NOTHING);
    }

    private static void nothingIfThereIsNoSuchOneAnyMore() {
        BullStreet x = after("person(2, 0, 1)", "keep()", "person(1, 0, 1)", "beast(0, 1)", "shelf(0, 0, 0)", "shelf(1, 0, 1)", "shelf(2, 1, 0)", "again()");
        due(x, "taken(0, 2)", 0);
        dueEach(x, "taken(?, 0)", NOTHING, 1, 2);
        dueEach(x, "taken(?, 8)", NOTHING, 1, 2);
        due(x, "taken(1, 10)", NOTHING);
        due(x, "act(1, 0, 7)", 0);
        due(x, "act(2, 0, 7)", 0);
        // by its number: another one of it is held again
        Sentences.then(x, "person(6, 3, 1)", "beast(5, 4)");
        due(x, "taken(1, 6)", 1);
        due(x, "taken(1, 1)", OTHER_SORT);
        due(x, "taken(2, 8)", 0);
        due(x, "act(2, 0, 7)", -3);
    }

    private static void aPersonIsTakenAsTheKindThatHeIs() {
        int[][] is = {{0, 1}, {0, 2}, {0, 3}, {0, 1, 4}, {0, 1, 5}, {0, 3, 6}, {0, 2, 7}};
        BullStreet x = after("person(2, 0, 1)", "person(2, 0, 1)", "shelf(2, 0, 1)");
        for (int kind = 1; kind <= 7; kind++) {
            x.moves(1, 0, kind);
            for (int as = 0; as <= 8; as++) {
                boolean fits = false;
                for (int each : is[kind - 1]) fits |= each == as;
                due(x, "taken(2, " + as + ")", fits ? 1 : OTHER_SORT);
            }
            dueEach(x, "taken(2, ?)", OTHER_SORT, 10, 11, 12, 13, 14);
        }
        // HARM makes him another, too
        BullStreet y = after("person(4, 3, 1)", "beast(4, 1)", "shelf(0, 0, 0)");
        due(y, "taken(0, 4)", 0);
        y.run(1);
        due(y, "taken(0, 4)", OTHER_SORT);
        due(y, "taken(0, 3)", 0);
    }

    private static void aBeastIsUnderNone() {
        BullStreet x = after("beast(0, 1)", "beast(0, 1)", "shelf(0, 1, 1)");
        dueEach(x, "taken(0, ?)", OTHER_SORT, 0, 1, 2, 3, 4, 5, 6, 7, 10, 11, 12, 13, 14);
        due(x, "taken(0, 8)", 1);
    }

    private static void aRowIsTakenForItsSort() {
        for (int sort = 0; sort < 5; sort++) {
            for (int n : new int[] {0, 1, 40}) {
                BullStreet x = after("sheet(1, " + sort + ", " + n + ")", "shelf(3, 2, 1)");
                for (int as = 10; as <= 14; as++) due(x, "taken(3, " + as + ")", as == 10 + sort ? n : OTHER_SORT);
                dueEach(x, "taken(3, ?)", OTHER_SORT, 0, 1, 2, 3, 4, 5, 6, 7, 8);
            }
        }
    }

    private static void takenRefuses() {
        BullStreet x = after("person(2, 0, 1)", "sheet(0, 0, 3)", "shelf(0, 0, 0)", "shelf(1, 2, 0)");
        dueEach(x, "taken(?, 0)", BAD, -1, 4, LOW, HIGH);
        dueEach(x, "taken(?, 10)", BAD, -1, 4, LOW, HIGH);
        // BAD ahead of -13 and -11
        for (int s = 0; s < 4; s++) dueEach(x, "taken(" + s + ", ?)", BAD, -1, 9, 15, LOW, HIGH);
        dueEach(x, "taken(2, ?)", NOTHING, 0, 8, 10, 14);
    }

    // ---- many, keep, again

    private static void manyTells() {
        BullStreet x = Sentences.told();
        dueAll(x, "many(?)", 9, 6, 2, 4, 3, 9, 7);
        dueEach(x, "many(?)", BAD, -1, 7, LOW, HIGH);
        dueAll(new BullStreet(), "many(?)", 10, 0, 0, 0, 0, 0, 0, BAD);
        dueAll(Sentences.full(), "many(?)", 9, 20, 6, 4, 3, 200, 7, BAD);
    }

    private static void keepChangesNothingElse() {
        Sentences.changesOnly(Sentences::told, "keep()", "kept: ");
        due(Sentences.told(), "keep()", 1);
        due(Sentences.full(), "keep()", 1);
    }

    private static void allElseIsKept() {
        BullStreet x = Sentences.then(Sentences.told(), "keep()");
        java.util.List<String> before = kept(x), after;
        Sentences.then(x, "street(30)", "cell(0, 0, 9)", "rule(0, 9)", "rule(1, 9)", "rule(2, 9)", "person(2, 29, 1)", "beast(29, 4)", "moves(0, 20, 7)", "run(7)");
        x.seed(-5);
        Sentences.laws(x, "new stand;");
        due(x, "again()", 1);
        after = kept(x);
        Sentences.hold(before.equals(after), "what was kept isn't again: " + before + " " + after);
        due(x, "many(3)", 4);
    }

    private static java.util.List<String> kept(BullStreet x) {
        java.util.List<String> all = new java.util.ArrayList<>();
        for (String call : new String[] {"many(0)", "many(1)", "many(2)", "many(3)", "morning(0)", "morning(1)", "morning(2)", "morning(3)", "harm(60)", "together(60)"}) all.add(call + Sentences.ask(x, call));
        for (int c = 0; c < 9; c++) for (int what = 0; what < 6; what++) all.add("cell " + c + " " + x.cellOf(c, what));
        for (int p = 0; p < 6; p++) for (int what = 0; what < 5; what++) all.add("person " + p + " " + x.personOf(p, what) + " " + x.says(p));
        for (int b = 0; b < 2; b++) for (int what = 0; what < 3; what++) all.add("beast " + b + " " + x.beastOf(b, what));
        for (int what = 0; what < 3; what++) {
            int was = x.rule(what, 3);
            x.rule(what, was);
            all.add("rule " + was);
        }
        int z = x.seed(0);
        x.seed(z);
        all.add("z " + z);
        return all;
    }

    private static void theseAreNotKept() {
        BullStreet x = Sentences.then(Sentences.told(), "keep()", "prove(1)", "alterRow(0, 0, 44)", "sheet(0, 1, 4)", "put(0, 3, 300)", "sheet(1, -1, 0)",
            "shelf(0, 1, 0)", "shelf(1, 3, 0)", "act(0, 0, -9)", "feed(32, 1)", "again()");
        due(x, "many(4)", 1);
        due(x, "row(0, 0)", 44);
        due(x, "many(5)", 10);
        due(x, "read()", 1);
        due(x, "item(0, 1, 3)", 300);
        due(x, "item(1, 3, 0)", NOTHING);
        due(x, "taken(0, 8)", 0);
        due(x, "taken(1, 8)", NOTHING);
        dueAll(x, "trace(?)", 90, NONE);
        // a TAPE that was used up isn't filled again, nor are ROWS that were dropped
        BullStreet y = Sentences.then(Sentences.told(), "keep()", "read()", "prove(0)", "again()");
        due(y, "many(5)", 0);
        due(y, "many(4)", 0);
        due(y, "many(3)", 4);
    }

    private static void againIsTheLatestWhichStays() {
        BullStreet x = after("run(1)", "keep()", "run(1)", "keep()", "run(1)");
        for (int i = 0; i < 3; i++) {
            due(x, "again()", 1);
            due(x, "morning(0)", 2);
            Sentences.then(x, "run(5)", "person(1, 0, 1)", "street(3)", "cell(0, 2, 1)", "rule(2, 9)");
        }
        due(x, "again()", 1);
        due(x, "many(0)", 10);
        due(x, "many(1)", 0);
        due(x, "cellOf(0, 2)", 0);
        due(x, "rule(2, 3)", 3);
    }

    private static void againOfNothing() {
        BullStreet x = after("run(3)", "person(2, 4, 1)");
        due(x, "again()", NONE);
        due(x, "morning(0)", 3);
        due(x, "many(1)", 1);
        due(x, "keep()", 1);
        due(x, "again()", 1);
        due(x, "morning(0)", 3);
    }

    private static void actSentences() {
        Sentences.sentence("with a number x (ints that wrap): 0 runs, 1 sees, 2 falls, 3 harms. KINDS: 0 to 7 as in 1, 8 beast (under none of these). n: its number, a: its PACE.",
            HostSentencesTest::intsWrap);
        Sentences.sentence("person: 10 runs: x + a. 11 sees: runs(x) * 2. 12 falls: x by (a - n), the rest away [..] 13 harms: sees(x) ^ n. running: 20 runs: super.runs(x) * 3.",
            () -> actsOf(1));
        Sentences.sentence("standing: 30 sees: super.sees(x) - a.", () -> actsOf(2));
        Sentences.sentence("fallen: 40 falls: super.falls(x + 1).", () -> actsOf(3));
        Sentences.sentence("touching: 50 runs: super.runs(x) ^ n. 51 harms: super.harms(x) + falls(n).", () -> actsOf(4));
        Sentences.sentence("new: 60 sees: 0 - super.sees(x).", () -> actsOf(5));
        Sentences.sentence("heaped: 70 falls: super.falls(x) ^ 1. 71 runs: super.runs(x) - 5.", () -> actsOf(6));
        Sentences.sentence("leaving: 80 harms: super.harms(x) * 2. 81 sees: super.sees(x) + runs(n).", () -> actsOf(7));
        Sentences.sentence("beast: 90 runs: a - x. 91 sees: runs(x) * n. 92 falls: x | a. 93 harms: sees(x) - falls(n).", () -> actsOf(BEAST));
        Sentences.sentence("Quotients are cut towards 0.", HostSentencesTest::quotientsAreCutTowardsZero);
        Sentences.sentence("-15 parted by 0. [..] (-15 if a is n; that is all that act() answers then)", HostSentencesTest::partedByZero);
        Sentences.sentence("THE TRACE: numbers of the bodies that ran [..] as they began (left first); the first 30 are kept.", HostSentencesTest::traceIsAsTheyBegan);
        Sentences.sentence("in the latest act() [..] THE TRACE's i-th body. NONE.", HostSentencesTest::traceIsOfTheLatest);
        Sentences.sentence("An ACT (0 to 3) of the thing on a SHELF, with x. 0, and no TRACE then: no such SHELF, act, nothing, a row.", HostSentencesTest::actAnswersZero);
        Sentences.sentence("ACTS of a thing by its KIND", HostSentencesTest::actIsOfTheKindThatHeIsThen);
    }

    private static void sheetSentences() {
        Sentences.sentence("SHEETS 0 to 3 are rows of bytes (sort 0), shorts (1), ints (2), longs (3) or booleans (4)", HostSentencesTest::sheetsAreFour);
        Sentences.sentence("40 at most, or missing (at first).", HostSentencesTest::sheetsAreMissingAtFirst);
        Sentences.sentence("A SHEET becomes a row of n of a sort, all 0", HostSentencesTest::sheetBecomesARow);
        Sentences.sentence("or missing (sort -1; n counts nothing then): 1.", HostSentencesTest::sheetBecomesMissing);
        Sentences.sentence("BAD: no such SHEET, sort, n above 40; -14.", HostSentencesTest::sheetRefuses);
        Sentences.sentence("Item i becomes v, narrowed to its sort (booleans: whether it is not 0): 1. [..] of longs the lowest 32 bits; of booleans 1, 0",
            HostSentencesTest::putNarrows);
        Sentences.sentence("BAD: no such SHEET; -11; -12.", HostSentencesTest::putRefuses);
        Sentences.sentence("Item i, taken for a sort (0 to 4; [..] BAD: no such SHEET, sort; -13; -11; -12.", HostSentencesTest::itemRefuses);
        Sentences.sentence("(An item may be as low as these, too.)", HostSentencesTest::itemsMayBeAsLow);
        Sentences.sentence("n (0 to 30) items of a SHEET taken for bytes, from item i on, become WIDTHS [..] from CELL 0 on: how many came.",
            HostSentencesTest::widthsFromItemAndCellZero);
        Sentences.sentence("(those that cell() refuses are left out", HostSentencesTest::widthsLeavesOutWhatCellRefuses);
        Sentences.sentence("and such as lie behind the last CELL)", HostSentencesTest::widthsLeavesOutWhatLiesBehind);
        Sentences.sentence("BAD: no such SHEET, n; -13;", HostSentencesTest::widthsRefuses);
        Sentences.sentence("-11 (also with n 0)", HostSentencesTest::widthsOfAMissingOne);
        Sentences.sentence("-12: what stood ahead came.", HostSentencesTest::widthsOutside);
    }

    private static void shelfSentences() {
        Sentences.sentence("SHELVES 0 to 3 hold a PERSON, a BEAST [..] a SHEET's row, or nothing (at first).", HostSentencesTest::shelvesHoldNothingAtFirst);
        Sentences.sentence("A SHELF holds PERSON n (what 0), BEAST n (1), the row of SHEET n (2; nothing, if missing), nothing (3): 1.", HostSentencesTest::shelfHolds);
        Sentences.sentence("BAD: no such SHELF, what, thing.", HostSentencesTest::shelfRefuses);
        Sentences.sentence("the row of SHEET n (2; nothing, if missing)", HostSentencesTest::shelfHoldsTheRow);
        Sentences.sentence("(by its number; nothing, if there is no such one any more", HostSentencesTest::nothingIfThereIsNoSuchOneAnyMore);
        Sentences.sentence("a PERSON as of the KIND that he is then) [..] taken for a thing of KIND as (0 to 8, or one under it): its number",
            HostSentencesTest::aPersonIsTakenAsTheKindThatHeIs);
        Sentences.sentence("8 beast (under none of these)", HostSentencesTest::aBeastIsUnderNone);
        Sentences.sentence("for a row of sort as - 10 (as 10 to 14): how many items.", HostSentencesTest::aRowIsTakenForItsSort);
        Sentences.sentence("BAD: no such SHELF, as; -13; -11.", HostSentencesTest::takenRefuses);
    }

    private static void keptSentences() {
        Sentences.sentence("How many: what = 0 CELLS, 1 PEOPLE, 2 BEASTS, 3 CLAUSES, 4 ROWS, 5 bytes of THE TAPE, 6 bodies of THE TRACE (those kept, 30 at most). "
            + "BAD: another what.", HostSentencesTest::manyTells);
        Sentences.sentence("is kept: 1.", HostSentencesTest::keepChangesNothingElse);
        Sentences.sentence("All but THE TAPE [..] is kept", HostSentencesTest::allElseIsKept);
        Sentences.sentence("All but THE TAPE, ROWS, SHEETS, SHELVES, THE TRACE is kept", HostSentencesTest::theseAreNotKept);
        Sentences.sentence("It becomes what was kept latest (which stays): 1.", HostSentencesTest::againIsTheLatestWhichStays);
        Sentences.sentence("NONE: nothing is kept.", HostSentencesTest::againOfNothing);
    }

    public static void main(String[] args) {
        actSentences();
        sheetSentences();
        shelfSentences();
        keptSentences();
        Sentences.end();
    }
}
