/** 'Terms', ======== 4 down to THE READER, what 2 says of TRIALS, and promises 18 to 28, sentence by sentence. */
public final class TrialSentencesTest {
    private static final int LOW = Sentences.LOW, HIGH = Sentences.HIGH, BAD = Sentences.BAD, NONE = Sentences.NONE, GONE = Sentences.GONE;
    private static final int RUNNING = 1, STANDING = 2, FALLEN = 3, HEAPED = 6;

    private static void due(BullStreet x, String call, int want) { Sentences.due(x, call, want); }

    private static void dueEach(BullStreet x, String call, int want, int... values) { Sentences.dueEach(x, call, want, values); }

    private static void dueAll(BullStreet x, String call, int... wants) { Sentences.dueAll(x, call, wants); }

    private static BullStreet after(String... calls) { return Sentences.after(calls); }

    private static BullStreet withLaws(String text, String... calls) { return Sentences.then(Sentences.laws(new BullStreet(), text), calls); }

    // ---- trials

    private static void trialsAreOfZeroToSixty() {
        String[] trials = {"odds(0, ?, 0)", "odds(0, ?, 1)", "begin(0, ?)", "door(?)", "limit(?)", "law(0, ?)", "together(?)", "harm(?)", "prove(?)"};
        // a heaped one in 1, a lone BEAST that sees nobody: nothing comes of it in 0 TENTHS, nor in 60
        BullStreet x = withLaws("all stand;", "rule(0, 1)");
        Sentences.lone(x, 5, 1);
        x.person(STANDING, 1, 1);
        int[] none = {0, 1, 0, NONE, 1, 1000, 0, 0, 0};
        for (int i = 0; i < trials.length; i++) {
            dueEach(x, trials[i], BAD, -1, 61, LOW, HIGH);
            dueEach(x, trials[i], none[i], 0, 1, 60);
        }
    }

    private static void nothingChanges() {
        for (int n : new int[] {0, 1, 7, 60}) {
            for (int p : new int[] {0, 3, 4}) {
                Sentences.changesOnly(Sentences::told, "odds(" + p + ", " + n + ", 0)");
                Sentences.changesOnly(Sentences::told, "begin(" + p + ", " + n + ")");
            }
            for (String call : new String[] {"door(" + n + ")", "limit(" + n + ")", "law(3, " + n + ")", "together(" + n + ")", "harm(" + n + ")"}) {
                Sentences.changesOnly(Sentences::told, call);
                Sentences.changesOnly(Sentences::full, call);
            }
            Sentences.changesOnly(Sentences::told, "prove(" + n + ")", "many(4)", "kept: many(4)", "row(", "harm(60)");
        }
        Sentences.changesOnly(Sentences::told, "judge()");
    }

    private static void goesOnFromAllAsItIs() {
        // z as it is: the stones of CELL 1 slip by this z, and not by that
        BullStreet x = after("cell(1, 1, 4)", "beast(0, 1)", "person(2, 1, 1)", "seed(" + Sentences.seedFor(false, 3) + ")");
        due(x, "harm(1)", 1);
        due(x, "together(1)", 0);
        x.seed(Sentences.seedFor(false, 4));
        due(x, "harm(1)", 0);
        due(x, "together(1)", 1);
        // TICK as it is
        BullStreet y = withLaws("all leave if tick=3;", "cell(5, 2, 1)", "person(6, 5, 1)", "beast(0, 1)");
        due(y, "harm(9)", 0);
        y.run(3);
        y.moves(0, 5, HEAPED);
        due(y, "harm(9)", 1);
        // what a TRIAL answers is what comes then
        BullStreet z = Sentences.told();
        int harm = z.harm(20);
        due(z, "run(20)", harm);
    }

    private static void harmIsAllHurtsThatCame() {
        BullStreet x = after("person(6, 2, 1)", "person(4, 2, 1)", "beast(0, 2)");
        Sentences.laws(x, "all stand;");
        due(x, "harm(0)", 0);
        due(x, "harm(1)", 3);
        due(x, "run(1)", 3);
        due(x, "harm(1)", 0);
        due(x, "harm(60)", 0);
        due(x, "morning(1)", 3);
    }

    // ---- odds

    private static void oddsAreInLowestTerms() {
        int[][] told = {{1, 1, 1, 8}, {1, 2, 3, 16}, {2, 1, 1, 4}, {1, 3, 5, 16}, {4, 1, 3, 8}, {1, 4, 7, 16}, {2, 3, 1, 2}, {3, 2, 9, 16},
            {3, 3, 11, 16}, {2, 4, 3, 4}, {3, 4, 13, 16}, {4, 4, 7, 8}, {6, 4, 15, 16}};
        for (int[] each : told) {
            // a standing one is hurt if one of the BEASTS that come to his CELL slips there
            BullStreet x = after("cell(1, 1, " + each[1] + ")", "person(2, 1, 1)");
            for (int b = 0; b < each[0]; b++) x.beast(0, 1);
            dueAll(x, "odds(0, 1, ?)", each[2], each[3]);
        }
    }

    private static void oddsOfNoneAndOfAll() {
        BullStreet x = after("person(2, 1, 1)", "person(6, 1, 1)", "beast(0, 1)");
        dueAll(x, "odds(0, 1, ?)", 0, 1);
        dueAll(x, "odds(0, 60, ?)", 0, 1);
        dueAll(x, "odds(1, 1, ?)", 1, 1);
        dueAll(x, "odds(1, 0, ?)", 0, 1);
    }

    private static void oddsAreOfZOneToSixteen() {
        // the z of now counts nothing
        for (int z : new int[] {0, 1, 16, 17, LOW, HIGH}) {
            BullStreet x = after("cell(1, 1, 4)", "person(2, 1, 1)", "beast(0, 1)");
            x.seed(z);
            dueAll(x, "odds(0, 1, ?)", 7, 16);
            due(x, "seed(0)", z);
        }
    }

    private static void oddsAreOfMoreHurts() {
        BullStreet x = withLaws("all stand;", "person(6, 1, 1)", "beast(0, 1)", "run(1)");
        due(x, "personOf(0, 3)", 1);
        dueAll(x, "odds(0, 60, ?)", 0, 1);
        x.beast(0, 1);
        dueAll(x, "odds(0, 1, ?)", 1, 1);
        // who is OUT isn't hurt
        BullStreet y = after("person(4, 9, 1)", "beast(0, 1)", "run(1)");
        dueAll(y, "odds(0, 60, ?)", 0, 1);
    }

    private static void oddsRefuses() {
        BullStreet x = after("person(2, 1, 1)");
        dueEach(x, "odds(?, 1, 0)", BAD, -1, 1, 20, LOW, HIGH);
        dueEach(x, "odds(0, ?, 0)", BAD, -1, 61, LOW, HIGH);
        dueEach(x, "odds(0, 1, ?)", BAD, -1, 2, LOW, HIGH);
        due(new BullStreet(), "odds(0, 1, 0)", BAD);
    }

    // ---- begin

    /** A BEAST alone in CELL 0 that sees one CELL far; a heaped one, whom it hurt already, beside it. */
    private static BullStreet loneInTheFirst(int cells) {
        BullStreet x = after("street(" + cells + ")");
        Sentences.lone(x, 1, 1);
        Sentences.then(x, "person(6, 0, 1)", "run(1)", "rule(0, 1)");
        Sentences.hold(x.beastOf(0, 0) == 0 && x.personOf(0, 3) == 2, "the BEAST isn't in CELL 0 where a test begins");
        return x;
    }

    private static void beginIsZeroToTheLast() {
        due(loneInTheFirst(3), "begin(0, 60)", 2);
        // a herd of one runs over all others but the last in 28 TENTHS, over that, too, in 29: of several the first
        BullStreet x = Sentences.then(loneInTheFirst(30), "beast(0, 1)");
        due(x, "begin(0, 28)", 29);
        due(x, "begin(0, 29)", 2);
        // behind it, in the first CELL
        due(after("person(6, 5, 1)", "beast(0, 1)"), "begin(0, 60)", 0);
    }

    private static void beginIsTheFirstOfSeveral() {
        due(loneInTheFirst(30), "begin(0, 60)", 2);
        due(loneInTheFirst(2), "begin(0, 60)", 0);
        due(loneInTheFirst(30), "begin(0, 0)", 0);
    }

    private static void beginIsOfFewestMore() {
        // SIGHT 2: in CELL 2 he is hurt one TENTH later, so by 2 less than in 0 and 1
        BullStreet x = Sentences.then(loneInTheFirst(3), "rule(0, 2)");
        due(x, "begin(0, 1)", 2);
        due(x, "begin(0, 2)", 2);
        due(x, "begin(0, 60)", 2);
        due(x, "personOf(0, 1)", 0);
    }

    private static void beginOfWhoIsOut() {
        BullStreet x = Sentences.then(loneInTheFirst(3), "cell(0, 2, 1)");
        Sentences.laws(x, "all leave;").run(1);
        x.read();
        due(x, "personOf(0, 1)", GONE);
        due(x, "begin(0, 9)", 2);
        due(x, "personOf(0, 1)", GONE);
    }

    private static void beginRefuses() {
        BullStreet x = after("person(2, 1, 1)");
        dueEach(x, "begin(?, 1)", BAD, -1, 1, 20, LOW, HIGH);
        dueEach(x, "begin(0, ?)", BAD, -1, 61, LOW, HIGH);
        due(new BullStreet(), "begin(0, 1)", BAD);
    }

    // ---- door

    /** Heaped ones who would leave but rise never, in these CELLS; a BEAST of PACE 1 in CELL 0 comes by. */
    private static BullStreet leavers(int cells, int... places) {
        BullStreet x = withLaws("all leave;", "street(" + cells + ")", "rule(1, 9)", "beast(0, 1)");
        for (int c : places) x.person(HEAPED, c, 1);
        return x;
    }

    private static void doorMakesHarmLeast() {
        BullStreet x = leavers(10, 3, 5, 5);
        due(x, "harm(9)", 3);
        due(x, "door(9)", 5);
        due(x, "door(3)", 3);
        due(leavers(30, 9), "door(60)", 9);
        due(leavers(2, 1), "door(60)", 1);
        due(Sentences.then(leavers(30, 29), "beast(28, 1)"), "door(1)", 29);
        // where nobody lies it makes it no less
        due(x, "cellOf(5, 2)", 0);
    }

    private static void doorIsTheFirstOfSeveral() {
        due(leavers(10, 5, 3), "door(9)", 3);
        due(leavers(10, 9, 8, 7, 6, 9, 8, 7, 6), "door(9)", 6);
    }

    private static void doorIsOneWithoutADoor() {
        BullStreet x = Sentences.then(leavers(10, 3, 5, 5), "cell(5, 2, 1)");
        due(x, "door(9)", 3);
        Sentences.then(x, "cell(3, 2, 1)");
        due(x, "door(9)", NONE);
        BullStreet y = leavers(10, 3);
        for (int c = 0; c < 10; c++) if (c != 3) y.cell(c, 2, 1);
        due(y, "door(9)", 3);
        Sentences.then(y, "cell(3, 2, 1)");
        due(y, "door(9)", NONE);
        // one that was there counts nothing
        due(Sentences.then(leavers(10, 3), "cell(3, 2, 1)", "keep()", "cell(3, 2, 0)"), "door(9)", 3);
    }

    private static void noDoorIfItIsntLess() {
        due(leavers(10, 3), "door(2)", NONE);
        due(leavers(10, 3), "door(0)", NONE);
        due(new BullStreet(), "door(60)", NONE);
        // there is HARM, but nobody leaves
        due(after("person(6, 3, 1)", "beast(0, 1)"), "door(60)", NONE);
        dueEach(leavers(10, 3), "door(?)", BAD, -1, 61, LOW, HIGH);
    }

    private static void doorOfTheFirstCell() {
        BullStreet x = Sentences.laws(loneInTheFirst(10), "all leave;");
        due(x, "door(1)", 0);
    }

    // ---- limit

    private static void limitIsTheGreatest() {
        BullStreet x = new BullStreet();
        for (int i = 0; i < 20; i++) x.person(FALLEN, i / 2, 1);
        due(x, "limit(60)", 20);
        x.moves(19, 8, FALLEN);
        due(x, "limit(60)", 19);
        x.moves(2, 0, FALLEN);
        due(x, "limit(60)", 2);
        due(x, "limit(0)", 20);
        // a heaped one rises if he has company: two may be let in, though not one
        BullStreet y = withLaws("heaped run if crowd=2;", "person(6, 5, 1)", "person(2, 5, 1)", "person(2, 5, 1)");
        due(y, "limit(1)", 2);
    }

    private static void limitIsZero() {
        due(new BullStreet(), "limit(0)", 0);
        due(new BullStreet(), "limit(60)", 0);
        due(after("person(6, 5, 1)", "person(2, 5, 1)"), "limit(60)", 0);
        due(after("person(2, 5, 1)", "person(6, 5, 1)"), "limit(60)", 1);
    }

    private static void limitIsOfWhoIsInACell() {
        BullStreet x = withLaws("heaped leave;", "cell(5, 2, 1)", "person(6, 5, 1)");
        due(x, "limit(0)", 0);
        due(x, "limit(1)", 1);
        BullStreet y = after("person(6, 5, 1)", "street(5)");
        due(y, "personOf(0, 0)", HEAPED);
        due(y, "limit(0)", 1);
        dueEach(y, "limit(?)", BAD, -1, 61, LOW, HIGH);
    }

    private static void limitIsOfTheEnd() {
        // three lie as a HEAP till the sixth TENTH
        BullStreet x = withLaws("all leave if tick=6;", "cell(5, 2, 1)", "person(3, 5, 1)", "person(3, 5, 1)", "person(3, 5, 1)");
        due(x, "limit(0)", 3);
        dueEach(x, "limit(?)", 2, 1, 5);
        dueEach(x, "limit(?)", 3, 6, 60);
    }

    // ---- law

    private static void lawIsHarmWithoutLessHarm() {
        BullStreet x = withLaws("new run;running down;all stand;", "person(1, 5, 1)", "beast(4, 1)");
        // down he is not hurt; without that he stands, running, and is
        due(x, "law(0, 1)", 1000);
        due(x, "law(1, 1)", 1001);
        due(x, "law(2, 1)", 1000);
        due(x, "law(1, 0)", 1000);
        BullStreet y = withLaws("running stand;", "person(1, 5, 1)", "beast(4, 1)");
        due(y, "law(0, 1)", 999);
        due(y, "says(0)", 0);
    }

    private static void lawMayBeBelowZero() {
        // 20 stand by a lone BEAST: 60 TENTHS of 1 each; down they are a HEAP from the second TENTH on: 1, then 59 of 2
        BullStreet x = new BullStreet();
        Sentences.lone(x, 5, 1);
        for (int i = 0; i < 20; i++) x.person(STANDING, 5, 1);
        Sentences.laws(x, "standing down;");
        due(x, "harm(60)", 2380);
        due(x, "law(0, 60)", 1000 + 1200 - 2380);
    }

    private static void lawRefuses() {
        BullStreet x = new BullStreet();
        dueEach(x, "law(?, 1)", BAD, 0, -1, 1, LOW, HIGH);
        Sentences.laws(x, "all run;all run;");
        dueEach(x, "law(?, 1)", 1000, 0, 1);
        dueEach(x, "law(?, 1)", BAD, -1, 2, 8, LOW, HIGH);
        dueEach(x, "law(0, ?)", BAD, -1, 61, LOW, HIGH);
        Sentences.laws(x, "all run;".repeat(8));
        due(x, "law(7, 1)", 1000);
        due(x, "law(8, 1)", BAD);
    }

    // ---- together

    private static void togetherIsTillOneIsAlone() {
        BullStreet x = after("beast(0, 1)", "beast(0, 1)", "cell(4, 1, 4)", "seed(" + Sentences.seedFor(false, 4, 3) + ")");
        dueEach(x, "together(?)", 0, 0);
        due(x, "together(1)", 1);
        due(x, "together(3)", 3);
        // behind the fourth TENTH the second of them is ALONE
        due(x, "together(4)", 3);
        due(x, "together(60)", 3);
        x.run(4);
        due(x, "together(60)", 0);
        dueEach(x, "together(?)", BAD, -1, 61, LOW, HIGH);
    }

    private static void togetherIsWithoutWhoIsOut() {
        due(new BullStreet(), "together(60)", 60);
        due(after("beast(9, 1)"), "together(60)", 60);
        BullStreet x = new BullStreet();
        Sentences.lone(x, 5, 1);
        due(x, "together(60)", 0);
        due(loneInTheFirst(10), "together(60)", 0);
        x.street(5);
        due(x, "beastOf(0, 2)", 1);
        due(x, "together(60)", 60);
    }

    // ---- rows

    private static void rowsAreTheFirstTwentyFour() {
        BullStreet x = new BullStreet();
        Sentences.lone(x, 5, 1);
        x.person(STANDING, 5, 1);
        due(x, "prove(0)", 0);
        dueAll(x, "prove(?)", 0, 1, 2);
        due(x, "prove(23)", 23);
        due(x, "prove(24)", 24);
        due(x, "prove(25)", 24);
        due(x, "prove(60)", 24);
        due(x, "many(4)", 24);
        dueAll(x, "row(0, ?)", 1, 0, 5);
        dueAll(x, "row(23, ?)", 24, 0, 5);
        due(x, "row(24, 0)", GONE);
        due(x, "judge()", 0);
        dueEach(x, "prove(?)", BAD, -1, 61, LOW, HIGH);
        due(x, "many(4)", 24);
        due(x, "prove(0)", 0);
        due(x, "row(0, 0)", GONE);
    }

    private static void rowsAreInTheirOrder() {
        // TENTHS from 1 on, whatever TICK is; within one by numbers, in whatever CELLS
        BullStreet x = withLaws("all stand;", "person(6, 5, 1)", "person(4, 4, 1)", "person(2, 5, 1)", "person(6, 4, 1)", "beast(1, 1)", "beast(2, 1)", "run(1)");
        due(x, "morning(0)", 1);
        due(x, "prove(60)", 5);
        int[][] rows = {{1, 1, 4}, {1, 3, 4}, {2, 0, 5}, {2, 3, 4}, {3, 0, 5}};
        for (int i = 0; i < rows.length; i++) dueAll(x, "row(" + i + ", ?)", rows[i]);
        BullStreet y = withLaws("all stand;", "person(6, 5, 1)", "person(6, 4, 1)", "beast(3, 1)", "beast(4, 1)");
        due(y, "prove(60)", 3);
        dueAll(y, "row(0, ?)", 1, 0, 5);
        dueAll(y, "row(1, ?)", 1, 1, 4);
        dueAll(y, "row(2, ?)", 2, 0, 5);
    }

    private static BullStreet threeRows() { return withLaws("all stand;", "person(6, 5, 1)", "person(6, 4, 1)", "beast(3, 1)", "beast(4, 1)", "prove(60)"); }

    private static void rowTells() {
        due(new BullStreet(), "row(0, 0)", GONE);
        BullStreet x = threeRows();
        dueEach(x, "row(?, 0)", GONE, -1, 3, 23, 24, LOW, HIGH);
        dueEach(x, "row(0, ?)", GONE, -1, 3, LOW, HIGH);
        dueAll(x, "row(2, ?)", 2, 0, 5, GONE);
        x.prove(1);
        dueAll(x, "row(?, 0)", 1, 1, GONE);
    }

    private static void rowBecomes() {
        due(new BullStreet(), "alterRow(0, 0, 1)", GONE);
        BullStreet x = threeRows();
        for (int v : new int[] {HIGH, LOW, 0, -9}) {
            int was = x.row(1, 2);
            due(x, "alterRow(1, 2, " + v + ")", was);
            due(x, "row(1, 2)", v);
        }
        dueAll(x, "row(1, ?)", 1, 1, -9);
        dueAll(x, "row(0, ?)", 1, 0, 5);
        dueEach(x, "alterRow(?, 0, 7)", GONE, -1, 3, 23, 24, LOW, HIGH);
        dueEach(x, "alterRow(0, ?, 7)", GONE, -1, 3, LOW, HIGH);
        dueAll(x, "row(0, ?)", 1, 0, 5);
        due(x, "many(4)", 3);
    }

    private static void judgeTellsTheFirstWrongOne() {
        for (int i = 0; i < 3; i++) {
            for (int what = 0; what < 3; what++) {
                for (int v : new int[] {LOW, HIGH, -1, 99}) {
                    BullStreet x = threeRows();
                    int was = x.row(i, what);
                    x.alterRow(i, what, v);
                    due(x, "judge()", i + 1);
                    // one wrong behind it counts nothing, one ahead of it does
                    x.alterRow(2, 0, v);
                    due(x, "judge()", i + 1);
                    x.alterRow(0, 0, v);
                    due(x, "judge()", 1);
                    x.prove(60);
                    x.alterRow(i, what, was);
                    due(x, "judge()", 0);
                }
            }
        }
    }

    private static void judgeTakesThemInTheirOrder() {
        // what is right of another place is wrong in this
        BullStreet x = threeRows();
        Sentences.then(x, "alterRow(0, 1, 1)", "alterRow(0, 2, 4)");
        due(x, "judge()", 1);
        Sentences.then(x, "alterRow(1, 1, 0)", "alterRow(1, 2, 5)");
        due(x, "judge()", 1);
        BullStreet y = Sentences.then(threeRows(), "alterRow(1, 0, 2)", "alterRow(1, 1, 0)", "alterRow(1, 2, 5)");
        due(y, "judge()", 2);
    }

    private static void judgeOfNoneAndOfFewer() {
        due(new BullStreet(), "judge()", 0);
        BullStreet x = threeRows();
        x.prove(0);
        due(x, "judge()", 0);
        x.prove(1);
        due(x, "many(4)", 2);
        due(x, "judge()", 0);
    }

    private static void judgeGoesOnFromNow() {
        BullStreet x = threeRows();
        due(x, "judge()", 0);
        // the third has become the first, and so has the same TENTH, PERSON, CELL as that had
        x.run(1);
        due(x, "judge()", 2);
        Sentences.then(x, "prove(60)");
        due(x, "many(4)", 1);
        due(x, "judge()", 0);
        // no HARM is left: the first isn't the next one, nor is there one
        x.run(60);
        due(x, "judge()", 1);
    }

    private static void judgeTakesSixtyTenths() {
        // he comes to the lone BEAST in the 60th TENTH from now: TICK is 1 now
        BullStreet x = new BullStreet();
        Sentences.lone(x, 5, 1);
        Sentences.then(x, "rule(0, 1)", "person(2, 3, 2)");
        Sentences.laws(x, "all run if tick=61;");
        due(x, "prove(59)", 0);
        due(x, "prove(60)", 1);
        dueAll(x, "row(0, ?)", 60, 0, 5);
        due(x, "judge()", 0);
        due(x, "alterRow(0, 0, 59)", 60);
        due(x, "judge()", 1);
        // one TENTH later there is one HARM more, in the 60th
        x.run(1);
        due(x, "judge()", 0);
        // in the 61st it is past the TRIAL
        Sentences.laws(x, "all run if tick=63;");
        due(x, "alterRow(0, 0, 61)", 59);
        due(x, "judge()", 1);
    }

    private static void trialSentences() {
        Sentences.sentence("A TRIAL of n TENTHS (0 to 60)", TrialSentencesTest::trialsAreOfZeroToSixty);
        Sentences.sentence("nothing changes.", TrialSentencesTest::nothingChanges);
        Sentences.sentence("goes on from all as it is", TrialSentencesTest::goesOnFromAllAsItIs);
        Sentences.sentence("HARM of it: all HURTS that came in it. [..] HARM of a TRIAL. BAD: n.", TrialSentencesTest::harmIsAllHurtsThatCame);
        Sentences.sentence("Fractions are told in lowest terms by parts: 0 what is above the line, 1 what is below it", TrialSentencesTest::oddsAreInLowestTerms);
        Sentences.sentence("(above 0; of 0 it is 1)", TrialSentencesTest::oddsOfNoneAndOfAll);
        Sentences.sentence("of 16 TRIALS of n TENTHS with z 1 to 16", TrialSentencesTest::oddsAreOfZOneToSixteen);
        Sentences.sentence("as many as those in which he has more HURTS.", TrialSentencesTest::oddsAreOfMoreHurts);
        Sentences.sentence("ODDS. BAD: no such PERSON, n (0 to 60), part.", TrialSentencesTest::oddsRefuses);
        Sentences.sentence("BEGIN of a PERSON by n: the CELL (0 to the last)", TrialSentencesTest::beginIsZeroToTheLast);
        Sentences.sentence("in a TRIAL; of several the first.", TrialSentencesTest::beginIsTheFirstOfSeveral);
        Sentences.sentence("for him to have fewest HURTS more", TrialSentencesTest::beginIsOfFewestMore);
        Sentences.sentence("in which he would have to be now", TrialSentencesTest::beginOfWhoIsOut);
        Sentences.sentence("BEGIN. BAD: no such PERSON, n.", TrialSentencesTest::beginRefuses);
        Sentences.sentence("DOOR by n: the CELL without a DOOR which with one makes HARM least", TrialSentencesTest::doorMakesHarmLeast);
        Sentences.sentence("makes HARM least; of several the first", TrialSentencesTest::doorIsTheFirstOfSeveral);
        Sentences.sentence("the CELL without a DOOR", TrialSentencesTest::doorIsOneWithoutADoor);
        Sentences.sentence("none, if it isn't less than now. [..] DOOR. BAD: n; NONE.", TrialSentencesTest::noDoorIfItIsntLess);
        Sentences.sentence("DOOR by n: the CELL", TrialSentencesTest::doorOfTheFirstCell);
    }

    private static void countSentences() {
        Sentences.sentence("LIMIT by n: the greatest m so that in a TRIAL with the first m PEOPLE alone (the others OUT)", TrialSentencesTest::limitIsTheGreatest);
        Sentences.sentence("0, if there is none above.", TrialSentencesTest::limitIsZero);
        Sentences.sentence("no PERSON is heaped (in a CELL) [..] LIMIT. BAD: n.", TrialSentencesTest::limitIsOfWhoIsInACell);
        Sentences.sentence("is heaped (in a CELL) in the end", TrialSentencesTest::limitIsOfTheEnd);
        Sentences.sentence("LAW by k and n: HARM without CLAUSE k less HARM.", TrialSentencesTest::lawIsHarmWithoutLessHarm);
        Sentences.sentence("LAW, and 1000 more.", TrialSentencesTest::lawMayBeBelowZero);
        Sentences.sentence("BAD: no such CLAUSE, n.", TrialSentencesTest::lawRefuses);
        Sentences.sentence("TOGETHER by n: of how many TENTHS of a TRIAL [..] is ALONE behind them. [..] TOGETHER. BAD: n.", TrialSentencesTest::togetherIsTillOneIsAlone);
        Sentences.sentence("no BEAST that isn't OUT is ALONE", TrialSentencesTest::togetherIsWithoutWhoIsOut);
    }

    private static void rowSentences() {
        Sentences.sentence("the first 24. [..] ROWS by n (0 to 60): how many. BAD.", TrialSentencesTest::rowsAreTheFirstTwentyFour);
        Sentences.sentence("Then HARM, by numbers [..] (TENTH, PERSON, CELL) of each HARM above 0 of a TRIAL of n TENTHS, TENTH from 1 on, in the order in which it comes", TrialSentencesTest::rowsAreInTheirOrder);
        Sentences.sentence("Of ROW i: what = 0 TENTH, 1 PERSON, 2 CELL. -9: there is none such, another what.", TrialSentencesTest::rowTells);
        Sentences.sentence("It becomes v: what it was. -9 likewise.", TrialSentencesTest::rowBecomes);
        Sentences.sentence("0 all is right; else the first ROW that isn't, and 1 more.", TrialSentencesTest::judgeTellsTheFirstWrongOne);
        Sentences.sentence("right is one that is the next such HARM of it.", TrialSentencesTest::judgeTakesThemInTheirOrder);
        Sentences.sentence("0 all is right", TrialSentencesTest::judgeOfNoneAndOfFewer);
        Sentences.sentence("THE READER takes ROWS as those of a TRIAL of 60 TENTHS from now on", TrialSentencesTest::judgeGoesOnFromNow);
        Sentences.sentence("a TRIAL of 60 TENTHS", TrialSentencesTest::judgeTakesSixtyTenths);
    }

    public static void main(String[] args) {
        trialSentences();
        countSentences();
        rowSentences();
        Sentences.end();
    }
}
