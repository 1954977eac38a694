/** 'Terms', ======== 2, and promises 16 and 17, sentence by sentence. */
public final class TenthSentencesTest {
    private static final int LOW = Sentences.LOW, HIGH = Sentences.HIGH, BAD = Sentences.BAD, GONE = Sentences.GONE;
    private static final int RUNNING = 1, STANDING = 2, FALLEN = 3, TOUCHING = 4, NEW = 5, HEAPED = 6, LEAVING = 7;
    private static final String LONG_STREET = "street(30)";

    private static void due(BullStreet x, String call, int want) { Sentences.due(x, call, want); }

    private static void dueAll(BullStreet x, String call, int... wants) { Sentences.dueAll(x, call, wants); }

    private static BullStreet after(String... calls) { return Sentences.after(calls); }

    private static BullStreet withLaws(String text, String... calls) { return Sentences.then(Sentences.laws(new BullStreet(), text), calls); }

    // ---- beasts

    private static void tickIsOneMore() {
        BullStreet x = new BullStreet();
        due(x, "morning(0)", 0);
        due(x, "run(0)", 0);
        due(x, "morning(0)", 0);
        due(x, "run(1)", 0);
        due(x, "morning(0)", 1);
        due(x, "run(60)", 0);
        due(x, "morning(0)", 61);
    }

    private static void beastsGoByNumbers() {
        int first = Sentences.seedFor(false, 3, 4);
        BullStreet x = after("cell(1, 1, 4)", "beast(0, 1)", "beast(0, 1)", "seed(" + first + ")", "run(1)");
        dueAll(x, "beastOf(?, 2)", 1, 0);
        int second = Sentences.seedFor(false, 4, 3);
        BullStreet y = after("cell(1, 1, 4)", "beast(0, 1)", "beast(0, 1)", "seed(" + second + ")", "run(1)");
        dueAll(y, "beastOf(?, 2)", 0, 1);
    }

    private static void beastsThatAreOutGoNowhere() {
        BullStreet x = after("beast(9, 1)", "run(1)");
        for (int c = 0; c < 10; c++) x.cell(c, 1, 4);
        x.seed(5);
        due(x, "run(60)", 0);
        due(x, "beastOf(0, 0)", GONE);
        due(x, "beastOf(0, 2)", 0);
        due(x, "seed(5)", 5);
        // who is ALONE and OUT comes for nobody
        BullStreet y = new BullStreet();
        Sentences.lone(y, 5, 1);
        Sentences.then(y, "street(3)", "rule(0, 9)", "person(2, 0, 1)", "run(9)");
        due(y, "beastOf(0, 0)", GONE);
        due(y, "morning(1)", 0);
    }

    private static void herdGoesByPace() {
        for (int pace = 1; pace <= 4; pace++) {
            BullStreet x = after("beast(0, " + pace + ")", "run(1)");
            due(x, "beastOf(0, 0)", pace);
            due(x, "run(1)", 0);
            due(x, "beastOf(0, 0)", 2 * pace);
        }
    }

    private static void behindTheLastItIsOut() {
        for (int n : new int[] {2, 10, 30}) {
            for (int pace = 1; pace <= 4; pace++) {
                if (pace < n) {
                    BullStreet x = after("street(" + n + ")", "beast(" + (n - 1 - pace) + ", " + pace + ")", "run(1)");
                    due(x, "beastOf(0, 0)", n - 1);
                    x.run(1);
                    due(x, "beastOf(0, 0)", GONE);
                }
                BullStreet y = after("street(" + n + ")", "beast(" + Math.max(0, n - pace) + ", " + pace + ")", "run(1)");
                due(y, "beastOf(0, 0)", GONE);
            }
        }
    }

    private static void itSlipsCellByCell() {
        int seed = Sentences.seedFor(false, 1, 7, 1, 1);
        BullStreet x = after("cell(1, 1, 1)", "cell(2, 1, 4)", "cell(3, 1, 1)", "cell(4, 1, 1)", "beast(0, 4)", "seed(" + seed + ")", "run(1)");
        dueAll(x, "beastOf(0, ?)", 4, 4, 0);
        due(x, "seed(0)", Sentences.next(Sentences.next(Sentences.next(Sentences.next(seed)))));
        // no stones are drawn behind the last CELL, nor in the one from which it goes
        BullStreet y = after("cell(8, 1, 4)", "beast(8, 3)", "seed(5)", "run(1)");
        due(y, "beastOf(0, 0)", GONE);
        due(y, "seed(0)", 5);
    }

    private static void stonesAboveZeroAlone() {
        BullStreet x = after("beast(0, 4)", "seed(5)", "run(1)");
        due(x, "seed(5)", 5);
        BullStreet y = after("cell(4, 1, 1)", "beast(0, 4)", "seed(5)", "run(1)");
        due(y, "seed(5)", Sentences.next(5));
    }

    private static void zIsAnIntThatWraps() {
        BullStreet x = after("street(30)", "cell(1, 1, 1)", "beast(0, 1)", "run(1)");
        due(x, "seed(1)", 1103527590);
        for (int v : new int[] {0, -1, LOW, HIGH, 1103527590}) {
            BullStreet y = after("cell(1, 1, 1)", "beast(0, 1)");
            y.seed(v);
            y.run(1);
            due(y, "seed(1)", v * 1103515245 + 12345);
        }
    }

    private static void lessThanSlipAlone() {
        for (boolean below : new boolean[] {false, true}) {
            for (int drawn = 0; drawn < 8; drawn++) {
                int seed = Sentences.seedFor(below, drawn);
                for (int slip = 0; slip <= 4; slip++) {
                    BullStreet x = after("cell(1, 1, " + slip + ")", "beast(0, 2)", "seed(" + seed + ")", "run(1)");
                    due(x, "beastOf(0, 2)", drawn < slip ? 1 : 0);
                    due(x, "beastOf(0, 0)", drawn < slip ? 1 : 2);
                }
            }
        }
    }

    private static void aloneItGoesNoFurther() {
        int seed = Sentences.seedFor(false, 4, 0, 0);
        BullStreet x = after("cell(1, 1, 4)", "cell(2, 1, 4)", "cell(3, 1, 4)", "beast(0, 4)", "seed(" + seed + ")", "run(1)");
        dueAll(x, "beastOf(0, ?)", 2, 4, 1);
        due(x, "seed(0)", Sentences.next(Sentences.next(seed)));
        due(x, "run(5)", 0);
        due(x, "beastOf(0, 0)", 2);
    }

    /** A BEAST alone in CELL 15 of 30, of PACE 4, and standing ones in these CELLS: where it is one TENTH later. */
    private static int soughtFrom15(int sight, int... places) {
        BullStreet x = after(LONG_STREET);
        Sentences.lone(x, 15, 4);
        x.rule(0, sight);
        for (int c : places) x.person(STANDING, c, 1);
        x.run(1);
        return x.beastOf(0, 0);
    }

    private static void aloneItGoesOneCell() {
        Sentences.due("one two CELLS ahead", soughtFrom15(3, 17), 16);
        Sentences.due("one two CELLS back", soughtFrom15(3, 13), 14);
        // the stones slip no more for it
        BullStreet x = after(LONG_STREET);
        Sentences.lone(x, 15, 4);
        Sentences.then(x, "cell(16, 1, 4)", "person(2, 17, 1)", "seed(5)", "run(1)");
        due(x, "beastOf(0, 0)", 16);
        due(x, "seed(5)", 5);
    }

    private static void noMoreThanSight() {
        for (int sight = 1; sight <= 9; sight++) {
            Sentences.due("ahead, as far as SIGHT " + sight, soughtFrom15(sight, 15 + sight), 16);
            Sentences.due("ahead, farther than SIGHT " + sight, soughtFrom15(sight, 16 + sight), 15);
            Sentences.due("back, as far as SIGHT " + sight, soughtFrom15(sight, 15 - sight), 14);
            Sentences.due("back, farther than SIGHT " + sight, soughtFrom15(sight, 14 - sight), 15);
        }
    }

    private static void theNearestIsSought() {
        Sentences.due("2 ahead, 1 back", soughtFrom15(3, 17, 14), 14);
        Sentences.due("1 ahead, 2 back", soughtFrom15(3, 13, 16), 16);
        Sentences.due("9 ahead, 8 back", soughtFrom15(9, 24, 7), 14);
        Sentences.due("three 3 back, one 2 ahead", soughtFrom15(3, 12, 12, 12, 17), 16);
    }

    private static void ofTwoAsNearTheOneAhead() {
        for (int far = 1; far <= 9; far++) {
            Sentences.due(far + " back and ahead", soughtFrom15(9, 15 - far, 15 + far), 16);
            Sentences.due(far + " ahead and back", soughtFrom15(9, 15 + far, 15 - far), 16);
        }
    }

    private static void itStays() {
        Sentences.due("nobody", soughtFrom15(9), 15);
        Sentences.due("one in its CELL", soughtFrom15(9, 15), 15);
        Sentences.due("one in its CELL, one ahead, one back", soughtFrom15(9, 16, 14, 15), 15);
    }

    private static void whoIsOutIsNotSought() {
        // who is OUT is told as in CELL -9: that is no place that a BEAST in CELL 0 could go to
        BullStreet x = after("rule(0, 9)");
        Sentences.lone(x, 1, 1);
        Sentences.then(x, "person(2, 0, 1)", "run(1)");
        due(x, "beastOf(0, 0)", 0);
        Sentences.then(x, "moves(0, 9, 1)");
        due(x, "run(1)", 0);
        due(x, "personOf(0, 1)", GONE);
        int at = x.beastOf(0, 0);
        due(x, "run(9)", 0);
        due(x, "beastOf(0, 0)", at);
        Sentences.then(x, "person(2, 0, 1)", "run(3)", "moves(1, 9, 1)", "rule(0, 8)");
        due(x, "beastOf(0, 0)", 0);
        Sentences.then(x, "run(1)", "rule(0, 9)");
        due(x, "run(9)", 0);
        due(x, "beastOf(0, 0)", 0);
    }

    // ---- people

    private static void peopleGoByNumbers() {
        String[] narrow = {"cell(1, 0, 1)", "cell(2, 0, 1)", "cell(3, 0, 1)"};
        BullStreet x = Sentences.then(after(narrow), "person(1, 1, 1)", "person(1, 0, 1)", "run(1)");
        dueAll(x, "personOf(?, 1)", 2, 1);
        BullStreet y = Sentences.then(after(narrow), "person(1, 0, 1)", "person(1, 1, 1)", "run(1)");
        dueAll(y, "personOf(?, 1)", 0, 2);
    }

    private static void whoIsOutDoesNothing() {
        BullStreet x = after("person(1, 9, 1)", "run(1)");
        due(x, "personOf(0, 1)", GONE);
        Sentences.laws(x, "all down;");
        due(x, "run(9)", 0);
        dueAll(x, "personOf(0, ?)", RUNNING, GONE);
        Sentences.laws(x, "all run;");
        due(x, "run(60)", 0);
        due(x, "personOf(0, 1)", GONE);
    }

    private static void theFirstClauseThatHolds() {
        String[] one = {"person(4, 2, 1)"};
        due(withLaws("new stand;touching down;all run;", one), "says(0)", 1);
        due(withLaws("new stand;running stand;touching down;", one), "says(0)", 1);
        due(withLaws("all stand if tick>5;all down if tick=0;", one), "says(0)", 1);
        BullStreet x = withLaws("standing down;touching stand if crowd=2;all stand if place=2;running down;", one);
        due(x, "run(1)", 0);
        dueAll(x, "personOf(0, ?)", TOUCHING, 2);
        BullStreet y = withLaws("touching stand if crowd=2;running down;", one);
        due(y, "run(1)", 0);
        dueAll(y, "personOf(0, ?)", FALLEN, 2);
    }

    private static void withoutOneWhoIsRunningRuns() {
        int[] places = {5, 4, 4, 6, 5, 4, 4};
        for (String text : new String[] {"", "all down if 1=2;"}) {
            for (int kind = 1; kind <= 7; kind++) {
                BullStreet x = withLaws(text, "person(" + kind + ", 4, 1)");
                due(x, "run(1)", 0);
                due(x, "personOf(0, 1)", places[kind - 1]);
                due(x, "personOf(0, 0)", kind);
            }
        }
        // a CLAUSE of others is none of his
        BullStreet y = withLaws("standing run;", "person(1, 4, 1)", "person(2, 4, 1)", "person(3, 4, 1)", "run(1)");
        dueAll(y, "personOf(?, 1)", 5, 5, 4);
        dueAll(y, "personOf(?, 0)", RUNNING, STANDING, FALLEN);
    }

    private static void risesIfNearIsMoreThanRise() {
        for (int rise = 0; rise <= 9; rise++) {
            for (int kind : new int[] {FALLEN, HEAPED}) {
                BullStreet x = withLaws("all run;", LONG_STREET, "rule(1, " + rise + ")", "beast(0, 1)",
                    "person(" + kind + ", " + (1 + rise) + ", 3)", "person(" + kind + ", " + (2 + rise) + ", 3)");
                due(x, "run(1)", rise == 0 && kind == HEAPED ? 1 : 0);
                dueAll(x, "personOf(?, 0)", kind, RUNNING);
                dueAll(x, "personOf(?, 1)", 1 + rise, 2 + rise);
            }
        }
        // 99 is more than any RISE, whether there is none or one ahead
        BullStreet x = withLaws("all run;", "rule(1, 9)", "person(3, 4, 1)", "beast(4, 1)");
        due(x, "run(1)", 0);
        dueAll(x, "personOf(0, ?)", RUNNING, 4);
    }

    private static void aHeapedOneRisesOfFewerThanHeap() {
        for (int heap = 2; heap <= 9; heap++) {
            BullStreet x = withLaws("all run;", "rule(2, " + heap + ")"), y = withLaws("all run;", "rule(2, " + heap + ")");
            for (int i = 0; i < heap; i++) {
                x.person(HEAPED, 4, 1);
                if (i > 0) y.person(HEAPED, 4, 1);
            }
            x.run(1);
            y.run(1);
            for (int i = 0; i < heap; i++) {
                due(x, "personOf(" + i + ", 0)", HEAPED);
                if (i > 0) due(y, "personOf(" + (i - 1) + ", 0)", RUNNING);
            }
        }
        // fallen ones count beside heaped ones, in his CELL alone
        BullStreet x = withLaws("heaped run;", "person(6, 4, 1)", "person(3, 4, 1)", "person(3, 4, 1)", "person(6, 5, 1)", "person(3, 3, 1)", "run(1)");
        dueAll(x, "personOf(?, 0)", HEAPED, HEAPED, HEAPED, RUNNING, FALLEN);
    }

    private static void aFallenOneIsNotHeld() {
        BullStreet x = withLaws("all run;", "person(6, 4, 1)", "person(6, 4, 1)", "person(3, 4, 1)", "run(1)");
        dueAll(x, "personOf(?, 0)", HEAPED, HEAPED, RUNNING);
        BullStreet y = withLaws("all run;", "person(3, 4, 1)", "person(6, 4, 1)", "person(6, 4, 1)", "run(1)");
        dueAll(y, "personOf(?, 0)", RUNNING, RUNNING, RUNNING);
        BullStreet z = withLaws("all run;", "rule(2, 2)", "person(3, 4, 1)", "person(3, 4, 1)", "person(3, 4, 1)", "run(1)");
        dueAll(z, "personOf(?, 0)", RUNNING, RUNNING, RUNNING);
        dueAll(z, "personOf(?, 1)", 4, 4, 4);
    }

    private static void othersGoByPace() {
        int[][] steps = {{1, 2, 3}, {1, 2, 3}, {}, {2, 3, 4}, {1, 1, 2}, {}, {1, 2, 3}};
        for (int kind = 1; kind <= 7; kind++) {
            for (int pace = 1; pace <= steps[kind - 1].length; pace++) {
                BullStreet x = withLaws("all run;", "person(" + kind + ", 2, " + pace + ")", "run(1)");
                dueAll(x, "personOf(0, ?)", kind, 2 + steps[kind - 1][pace - 1], pace);
            }
        }
    }

    private static void cellByCell() {
        // a CELL without room stops him, though there is room in the next but one
        BullStreet x = after("cell(4, 0, 1)", "person(2, 4, 1)", "person(1, 2, 3)", "person(1, 3, 3)", "run(1)");
        dueAll(x, "personOf(?, 1)", 4, 3, 3);
        BullStreet y = after("rule(2, 2)", "cell(3, 0, 9)", "person(3, 3, 1)", "person(3, 3, 1)", "person(4, 1, 3)", "run(1)");
        dueAll(y, "personOf(?, 1)", 3, 3, 2);
    }

    private static void asLongAsThereIsRoom() {
        for (int width = 1; width <= 9; width++) {
            for (int crowd = width - 1; crowd <= width + 1; crowd++) {
                BullStreet x = after("cell(4, 0, " + width + ")", "person(1, 2, 3)");
                for (int i = 0; i < crowd; i++) x.person(STANDING, 4, 1);
                x.run(1);
                due(x, "personOf(0, 1)", crowd < width ? 5 : 3);
            }
        }
        // the CELL that he is in bars nobody who leaves it
        BullStreet y = after("cell(2, 0, 1)", "person(1, 2, 1)", "person(1, 2, 1)", "run(1)");
        dueAll(y, "personOf(?, 1)", 3, 3);
    }

    private static void asLongAsFewerThanHeapLieThere() {
        for (int heap = 2; heap <= 8; heap++) {
            for (int kind : new int[] {FALLEN, HEAPED}) {
                BullStreet x = after("rule(2, " + heap + ")", "cell(4, 0, 9)", "person(1, 2, 3)"), y = after("rule(2, " + heap + ")", "cell(4, 0, 9)", "person(1, 2, 3)");
                for (int i = 0; i < heap; i++) {
                    x.person(kind, 4, 1);
                    if (i > 0) y.person(kind, 4, 1);
                }
                x.run(1);
                y.run(1);
                due(x, "personOf(0, 1)", 3);
                due(y, "personOf(0, 1)", 5);
            }
        }
    }

    private static void behindTheLastTheyAreOut() {
        for (int n : new int[] {4, 10, 30}) {
            for (int pace = 1; pace <= 3; pace++) {
                BullStreet x = after("street(" + n + ")", "person(1, " + (n - 1 - pace) + ", " + pace + ")", "run(1)");
                due(x, "personOf(0, 1)", n - 1);
                BullStreet y = after("street(" + n + ")", "person(1, " + (n - pace) + ", " + pace + ")", "run(1)");
                due(y, "personOf(0, 1)", GONE);
                due(y, "personOf(0, 0)", RUNNING);
            }
        }
        BullStreet x = after("street(2)", "person(1, 0, 2)", "person(4, 0, 1)", "person(5, 0, 3)", "person(5, 0, 2)", "run(1)");
        dueAll(x, "personOf(?, 1)", GONE, GONE, GONE, 1);
        due(x, "morning(2)", 3);
    }

    private static void standIsToStay() {
        BullStreet x = withLaws("all stand;", "cell(4, 2, 1)");
        for (int kind = 1; kind <= 7; kind++) x.person(kind, 4, 3);
        due(x, "run(9)", 0);
        for (int kind = 1; kind <= 7; kind++) dueAll(x, "personOf(" + (kind - 1) + ", ?)", kind, 4);
    }

    private static void leaveByADoor() {
        for (int kind = 1; kind <= 7; kind++) {
            BullStreet x = withLaws("all leave;", "cell(4, 2, 1)", "rule(2, 2)", "person(" + kind + ", 4, 1)", "person(3, 4, 1)", "person(3, 4, 1)",
                "beast(3, 1)");
            due(x, "run(1)", 0);
            dueAll(x, "personOf(?, 1)", GONE, GONE, GONE);
            dueAll(x, "personOf(?, 0)", kind, FALLEN, FALLEN);
        }
    }

    private static void withoutADoorAsRun() {
        int[] kinds = {RUNNING, STANDING, RUNNING, TOUCHING, NEW, RUNNING, LEAVING}, places = {6, 6, 4, 7, 5, 4, 6};
        for (int kind = 1; kind <= 7; kind++) {
            // a DOOR in the CELL that he comes to counts when he is in it, a TENTH later
            BullStreet x = withLaws("all leave;", "cell(3, 2, 1)", "cell(" + places[kind - 1] + ", 2, 1)", "person(" + kind + ", 4, 2)");
            x.cell(4, 2, 0);
            due(x, "run(1)", 0);
            dueAll(x, "personOf(0, ?)", kinds[kind - 1], places[kind - 1]);
        }
        BullStreet y = withLaws("all leave;", "person(3, 4, 1)", "beast(1, 1)", "run(1)");
        dueAll(y, "personOf(0, ?)", FALLEN, 4);
    }

    private static void downIsToFall() {
        BullStreet x = withLaws("all down;", "rule(2, 9)");
        for (int kind = 1; kind <= 7; kind++) x.person(kind, 4, 1);
        due(x, "run(1)", 0);
        dueAll(x, "personOf(?, 0)", FALLEN, FALLEN, FALLEN, FALLEN, FALLEN, HEAPED, FALLEN);
        for (int p = 0; p < 7; p++) due(x, "personOf(" + p + ", 1)", 4);
    }

    // ---- harm, heaps

    private static void harmOfEachKind(boolean alone) {
        int[] herd = {1, 0, 0, 2, 2, 1, 0}, fallen = {FALLEN, STANDING, FALLEN, FALLEN, FALLEN, HEAPED, LEAVING};
        for (int kind = 1; kind <= 7; kind++) {
            BullStreet x = new BullStreet();
            if (alone) Sentences.lone(x, 4, 1);
            else x.beast(3, 1);
            Sentences.laws(x, "all stand;");
            x.person(kind, 4, 1);
            int due = herd[kind - 1] + (alone ? 1 : 0);
            due(x, "run(1)", due);
            due(x, "personOf(0, 3)", due);
            due(x, "personOf(0, 0)", fallen[kind - 1]);
        }
    }

    private static void harmFromTheHerd() { harmOfEachKind(false); }

    private static void harmFromOneAlone() { harmOfEachKind(true); }

    private static void oneMoreHoweverManyAreAlone() {
        BullStreet x = new BullStreet();
        Sentences.lone(x, 4, 1);
        Sentences.lone(x, 4, 1);
        Sentences.then(x, "beast(3, 1)", "beast(3, 1)", "person(2, 4, 1)");
        due(x, "cellOf(4, 5)", 2);
        due(x, "run(1)", 1);
        due(x, "cellOf(4, 5)", 4);
        // one ALONE elsewhere is none of these
        BullStreet y = new BullStreet();
        Sentences.lone(y, 8, 1);
        Sentences.then(y, "rule(0, 1)", "beast(3, 1)", "person(2, 4, 1)", "person(6, 4, 1)");
        due(y, "run(1)", 1);
        dueAll(y, "personOf(?, 3)", 0, 1);
    }

    private static void harmWhereABeastIs() {
        // it ran through his CELL; he ran into its CELL; he ran out of its CELL
        due(after("person(6, 1, 1)", "beast(0, 2)"), "run(1)", 0);
        due(after("person(1, 1, 1)", "beast(0, 2)"), "run(1)", 1);
        due(after("person(1, 1, 1)", "beast(0, 1)"), "run(1)", 0);
        due(after("person(1, 1, 1)", "beast(1, 2)", "beast(9, 1)"), "run(1)", 0);
    }

    private static void noHarmOfWhoIsOut() {
        BullStreet x = after("person(4, 9, 1)", "beast(9, 1)");
        due(x, "run(1)", 0);
        due(x, "morning(2)", 1);
        due(x, "beastOf(0, 0)", GONE);
        due(x, "run(60)", 0);
        dueAll(x, "personOf(0, ?)", TOUCHING, GONE, 1, 0);
        BullStreet y = after("person(6, 9, 1)", "beast(9, 4)");
        due(y, "run(9)", 0);
        dueAll(y, "personOf(0, ?)", HEAPED, 9, 1, 0);
    }

    private static void hurtsAddUp() {
        BullStreet x = new BullStreet();
        Sentences.lone(x, 4, 1);
        Sentences.then(x, "person(4, 4, 1)", "person(6, 4, 1)");
        Sentences.laws(x, "all stand;");
        due(x, "run(1)", 5);
        dueAll(x, "personOf(?, 3)", 3, 2);
        dueAll(x, "personOf(?, 0)", FALLEN, HEAPED);
        due(x, "run(2)", 6);
        dueAll(x, "personOf(?, 3)", 5, 6);
        due(x, "run(60)", 180);
        due(x, "morning(1)", 191);
    }

    private static void heapOrMoreAreHeaped() {
        for (int heap = 2; heap <= 9; heap++) {
            for (int n = heap - 1; n <= heap + 1; n++) {
                BullStreet x = after("rule(2, " + heap + ")", "person(2, 4, 1)");
                for (int i = 0; i < n; i++) x.person(FALLEN, 4, 1);
                due(x, "run(1)", 0);
                due(x, "personOf(0, 0)", STANDING);
                for (int i = 1; i <= n; i++) due(x, "personOf(" + i + ", 0)", n >= heap ? HEAPED : FALLEN);
                due(x, "morning(3)", n >= heap ? 1 : 0);
            }
        }
    }

    private static void heapedOnesCountForAHeap() {
        BullStreet x = after("person(6, 4, 1)", "person(6, 4, 1)", "person(3, 4, 1)", "person(3, 5, 1)", "person(3, 5, 1)", "run(1)");
        dueAll(x, "personOf(?, 0)", HEAPED, HEAPED, HEAPED, FALLEN, FALLEN);
        // who was made fallen by HARM of this TENTH is one of them
        BullStreet y = withLaws("all stand;", "person(1, 4, 1)", "person(5, 4, 1)", "person(3, 4, 1)", "beast(3, 1)");
        due(y, "run(1)", 3);
        dueAll(y, "personOf(?, 0)", HEAPED, HEAPED, HEAPED);
        // a heaped one alone stays heaped, and who is OUT is in no HEAP
        BullStreet z = after("person(6, 4, 1)", "person(3, 9, 1)", "person(3, 9, 1)", "person(3, 9, 1)", "street(9)", "run(1)");
        dueAll(z, "personOf(?, 0)", HEAPED, FALLEN, FALLEN, FALLEN);
    }

    // ---- run, morning

    private static void tenthsAreZeroToSixty() {
        BullStreet x = after("person(6, 1, 1)", "beast(0, 1)");
        Sentences.dueEach(x, "run(?)", BAD, -1, 61, LOW, HIGH);
        due(x, "morning(0)", 0);
        due(x, "run(0)", 0);
        dueAll(x, "morning(?)", 0, 0, 0, 1);
        due(x, "run(60)", 1);
        dueAll(x, "morning(?)", 60, 1, 0, 1);
    }

    private static void morningTells() {
        BullStreet x = after("person(6, 4, 1)", "person(6, 4, 1)", "person(6, 7, 1)", "person(6, 9, 1)", "person(1, 8, 1)", "beast(3, 1)");
        due(x, "run(1)", 2);
        dueAll(x, "morning(?)", 1, 2, 0, 3);
        x.run(1);
        dueAll(x, "morning(?)", 2, 2, 1, 3);
        // HURTS of who is OUT count, a heaped one who is OUT is in no CELL
        x.street(5);
        dueAll(x, "morning(?)", 2, 2, 3, 1);
        x.street(2);
        dueAll(x, "morning(?)", 2, 2, 5, 0);
        Sentences.dueEach(x, "morning(?)", BAD, -1, 4, LOW, HIGH);
    }

    private static void beastSentences() {
        Sentences.sentence("A TENTH: TICK (0 at first) is 1 more.", TenthSentencesTest::tickIsOneMore);
        Sentences.sentence("Then BEASTS by numbers", TenthSentencesTest::beastsGoByNumbers);
        Sentences.sentence("Then BEASTS by numbers (who aren't OUT)", TenthSentencesTest::beastsThatAreOutGoNowhere);
        Sentences.sentence("who isn't ALONE goes on by PACE CELLS, one by one", TenthSentencesTest::herdGoesByPace);
        Sentences.sentence("behind the last CELL it is OUT", TenthSentencesTest::behindTheLastItIsOut);
        Sentences.sentence("one by one; [..] as it comes into a CELL with SLIP", TenthSentencesTest::itSlipsCellByCell);
        Sentences.sentence("as it comes into a CELL with SLIP above 0", TenthSentencesTest::stonesAboveZeroAlone);
        Sentences.sentence("z (an int; 1 at first) becomes z * 1103515245 + 12345", TenthSentencesTest::zIsAnIntThatWraps);
        Sentences.sentence("if (z >>> 16) % 8 is less than SLIP", TenthSentencesTest::lessThanSlipAlone);
        Sentences.sentence("it is ALONE and goes no further now", TenthSentencesTest::aloneItGoesNoFurther);
        Sentences.sentence("Who is ALONE goes one CELL", TenthSentencesTest::aloneItGoesOneCell);
        Sentences.sentence("no more than SIGHT CELLS away (ahead or back", TenthSentencesTest::noMoreThanSight);
        Sentences.sentence("towards the nearest PERSON", TenthSentencesTest::theNearestIsSought);
        Sentences.sentence("of two as near towards the one ahead", TenthSentencesTest::ofTwoAsNearTheOneAhead);
        Sentences.sentence("it stays, if he is in its CELL, or there is none.", TenthSentencesTest::itStays);
        Sentences.sentence("the nearest PERSON who isn't OUT", TenthSentencesTest::whoIsOutIsNotSought);
    }

    private static void peopleSentences() {
        Sentences.sentence("Then PEOPLE by numbers", TenthSentencesTest::peopleGoByNumbers);
        Sentences.sentence("Then PEOPLE by numbers (who aren't OUT)", TenthSentencesTest::whoIsOutDoesNothing);
        Sentences.sentence("the ACT of the first CLAUSE of a KIND that is his or is above it (or of all) whose COND holds, or which has none",
            TenthSentencesTest::theFirstClauseThatHolds);
        Sentences.sentence("without one who is running (touching, new) runs, others stand.", TenthSentencesTest::withoutOneWhoIsRunningRuns);
        Sentences.sentence("a fallen (heaped) one rises, if NEAR is more than RISE", TenthSentencesTest::risesIfNearIsMoreThanRise);
        Sentences.sentence("and (of a heaped one) fewer than HEAP fallen ones are in his CELL", TenthSentencesTest::aHeapedOneRisesOfFewerThanHeap);
        Sentences.sentence("(of a heaped one) [..] he is running; else he stays.", TenthSentencesTest::aFallenOneIsNotHeld);
        Sentences.sentence("by PACE (touching: 1 more; new: 1 less, 1 at least)", TenthSentencesTest::othersGoByPace);
        Sentences.sentence("Others go on, CELL by CELL", TenthSentencesTest::cellByCell);
        Sentences.sentence("as long as the CROWD of the next CELL is less than its WIDTH", TenthSentencesTest::asLongAsThereIsRoom);
        Sentences.sentence("and fewer than HEAP fallen ones are in it", TenthSentencesTest::asLongAsFewerThanHeapLieThere);
        Sentences.sentence("behind the last CELL they are OUT.", TenthSentencesTest::behindTheLastTheyAreOut);
        Sentences.sentence("stand: he stays.", TenthSentencesTest::standIsToStay);
        Sentences.sentence("leave: in a CELL with a DOOR he is OUT (fallen ones, too)", TenthSentencesTest::leaveByADoor);
        Sentences.sentence("else as run.", TenthSentencesTest::withoutADoorAsRun);
        Sentences.sentence("down: who isn't fallen is fallen; others stay.", TenthSentencesTest::downIsToFall);
    }

    private static void harmSentences() {
        Sentences.sentence("running 1, touching 2, new 1 more than running, standing 0, leaving as standing, fallen 0, heaped 1 [..] "
            + "if it is above 0, running ones (touching, new) are fallen.", TenthSentencesTest::harmFromTheHerd);
        Sentences.sentence("if one of these BEASTS is ALONE, 1 more for each KIND.", TenthSentencesTest::harmFromOneAlone);
        Sentences.sentence("if one of these BEASTS is ALONE, 1 more", TenthSentencesTest::oneMoreHoweverManyAreAlone);
        Sentences.sentence("in whose CELL is a BEAST", TenthSentencesTest::harmWhereABeastIs);
        Sentences.sentence("to each who isn't OUT in whose CELL is a BEAST that isn't OUT", TenthSentencesTest::noHarmOfWhoIsOut);
        Sentences.sentence("HURTS are more by that", TenthSentencesTest::hurtsAddUp);
        Sentences.sentence("Then in each CELL with HEAP or more fallen ones", TenthSentencesTest::heapOrMoreAreHeaped);
        Sentences.sentence("fallen ones (heaped, too) all of them are heaped: a HEAP.", TenthSentencesTest::heapedOnesCountForAHeap);
        Sentences.sentence("n TENTHS (0 to 60): HARM. BAD.", TenthSentencesTest::tenthsAreZeroToSixty);
        Sentences.sentence("What = 0 TICK, 1 all HURTS, 2 PEOPLE that are OUT, 3 CELLS with one who is heaped. BAD.", TenthSentencesTest::morningTells);
    }

    public static void main(String[] args) {
        beastSentences();
        peopleSentences();
        harmSentences();
        Sentences.end();
    }
}
