/** 'Terms', ======== 1, and promises 1 to 11, sentence by sentence. */
public final class StreetSentencesTest {
    private static final int LOW = Sentences.LOW, HIGH = Sentences.HIGH;
    private static final int BAD = Sentences.BAD, FULL = Sentences.FULL, NONE = Sentences.NONE, GONE = Sentences.GONE;

    private static void due(BullStreet x, String call, int want) { Sentences.due(x, call, want); }

    private static void dueEach(BullStreet x, String call, int want, int... values) { Sentences.dueEach(x, call, want, values); }

    private static BullStreet after(String... calls) { return Sentences.after(calls); }

    // ---- Terms, 1

    private static void cellsAreTwoToThirty() {
        BullStreet x = new BullStreet();
        due(x, "many(0)", 10);
        due(x, "cellOf(9, 0)", 3);
        due(x, "cellOf(10, 0)", BAD);
        dueEach(x, "street(?)", BAD, 1, 31, 0, -1, -2, LOW, HIGH);
        due(x, "many(0)", 10);
        due(x, "street(2)", 2);
        due(x, "many(0)", 2);
        due(x, "cellOf(1, 0)", 3);
        due(x, "cellOf(2, 0)", BAD);
        due(x, "street(30)", 30);
        due(x, "many(0)", 30);
        due(x, "cellOf(29, 0)", 3);
        due(x, "cellOf(30, 0)", BAD);
    }

    /** Each value from the least to the most stands; one less and one more doesn't, in the first and the last CELL. */
    private static void traitStands(int what, int first, int least, int most) {
        for (int c : new int[] {0, 9}) {
            BullStreet x = new BullStreet();
            String cell = "cell(" + c + ", " + what + ", ", told = "cellOf(" + c + ", " + what + ")";
            due(x, told, first);
            int was = first;
            for (int v = least; v <= most; v++) {
                due(x, cell + v + ")", was);
                due(x, told, v);
                was = v;
            }
            dueEach(x, cell + "?)", BAD, least - 1, most + 1, LOW, HIGH, least + 256, least - 256);
            due(x, told, most);
            due(x, "cellOf(4, " + what + ")", first);
        }
    }

    private static void widthIsOneToNine() { traitStands(0, 3, 1, 9); }

    private static void slipIsZeroToFour() { traitStands(1, 0, 0, 4); }

    private static void doorOrNot() { traitStands(2, 0, 0, 1); }

    private static void peopleAreTwenty() {
        BullStreet x = new BullStreet();
        for (int i = 0; i < 20; i++) due(x, "person(1, 9, 1)", i);
        due(x, "person(1, 9, 1)", FULL);
        due(x, "many(1)", 20);
        due(x, "personOf(19, 0)", 1);
        due(x, "personOf(20, 0)", BAD);
        x.run(1);
        due(x, "morning(2)", 20);
        due(x, "person(1, 0, 1)", FULL);
    }

    private static void paceOfPeopleIsOneToThree() {
        BullStreet x = new BullStreet();
        for (int pace = 1; pace <= 3; pace++) {
            due(x, "person(2, 0, " + pace + ")", pace - 1);
            due(x, "personOf(" + (pace - 1) + ", 2)", pace);
        }
        dueEach(x, "person(2, 0, ?)", BAD, 0, 4, -1, LOW, HIGH);
        due(x, "many(1)", 3);
    }

    private static void hurtsAreNoneAtFirst() {
        BullStreet x = new BullStreet();
        for (int kind = 1; kind <= 7; kind++) {
            x.person(kind, kind, 1);
            due(x, "personOf(" + (kind - 1) + ", 3)", 0);
        }
        due(x, "morning(1)", 0);
    }

    private static void personsAreOfKindOneToSeven() {
        BullStreet x = new BullStreet();
        for (int kind = 1; kind <= 7; kind++) {
            due(x, "person(" + kind + ", 0, 1)", kind - 1);
            due(x, "personOf(" + (kind - 1) + ", 0)", kind);
        }
        dueEach(x, "person(?, 0, 1)", BAD, 0, 8, -1, LOW, HIGH);
    }

    private static void kindsAreUnderOneAnother() {
        // who goes by a CLAUSE of a KIND, and who can be taken for it: a bit for each KIND from 1 on
        int[] under = {127, 1 | 8 | 16, 2 | 64, 4 | 32, 8, 16, 32, 64};
        String[] names = {"all", "running", "standing", "fallen", "touching", "new", "heaped", "leaving"};
        BullStreet x = new BullStreet();
        for (int kind = 1; kind <= 7; kind++) x.person(kind, 0, 1);
        for (int as = 0; as <= 7; as++) {
            Sentences.laws(x, names[as] + " run;");
            for (int p = 0; p < 7; p++) {
                boolean is = (under[as] >> p & 1) == 1;
                due(x, "says(" + p + ")", is ? 0 : GONE);
                Sentences.then(x, "shelf(0, 0, " + p + ")");
                due(x, "taken(0, " + as + ")", is ? p : Sentences.OTHER_SORT);
            }
        }
    }

    private static void crowdIsWithoutWhoIsOut() {
        BullStreet x = new BullStreet();
        due(x, "cellOf(9, 3)", 0);
        for (int kind = 1; kind <= 7; kind++) x.person(kind, 9, 1);
        due(x, "cellOf(9, 3)", 7);
        due(x, "cellOf(8, 3)", 0);
        x.run(1);
        due(x, "cellOf(9, 3)", 4);
        due(x, "cellOf(0, 3)", 0);
    }

    private static void beastsAreSix() {
        BullStreet x = new BullStreet();
        for (int i = 0; i < 6; i++) due(x, "beast(9, 1)", i);
        due(x, "beast(9, 1)", FULL);
        due(x, "many(2)", 6);
        due(x, "beastOf(5, 0)", 9);
        due(x, "beastOf(6, 0)", BAD);
        x.run(1);
        due(x, "beastOf(5, 0)", GONE);
        due(x, "beast(0, 1)", FULL);
    }

    private static void paceOfBeastsIsOneToFour() {
        BullStreet x = new BullStreet();
        for (int pace = 1; pace <= 4; pace++) {
            due(x, "beast(0, " + pace + ")", pace - 1);
            due(x, "beastOf(" + (pace - 1) + ", 1)", pace);
        }
        dueEach(x, "beast(0, ?)", BAD, 0, 5, -1, LOW, HIGH);
        due(x, "many(2)", 4);
    }

    private static void nobodyIsAloneAtFirst() {
        BullStreet x = new BullStreet();
        Sentences.lone(x, 3, 1);
        due(x, "beast(3, 1)", 1);
        Sentences.dueAll(x, "beastOf(?, 2)", 1, 0);
        due(x, "beast(9, 1)", 2);
        due(x, "run(1)", 0);
        Sentences.dueAll(x, "beastOf(?, 0)", 3, 4, GONE);
    }

    private static void nearIsTheLeastFromBehind() {
        BullStreet x = after("person(2, 5, 1)", "beast(9, 1)");
        due(x, "personOf(0, 4)", 99);
        Sentences.then(x, "beast(6, 1)");
        due(x, "personOf(0, 4)", 99);
        Sentences.then(x, "beast(0, 1)");
        due(x, "personOf(0, 4)", 5);
        Sentences.then(x, "beast(4, 1)");
        due(x, "personOf(0, 4)", 1);
        Sentences.then(x, "beast(1, 1)");
        due(x, "personOf(0, 4)", 1);
    }

    private static void nearIsZeroInHisCell() {
        due(after("person(2, 0, 1)", "beast(0, 1)"), "personOf(0, 4)", 0);
        due(after("person(2, 9, 1)", "beast(8, 1)", "beast(9, 1)"), "personOf(0, 4)", 0);
    }

    private static void nearIsWithoutWhoIsOut() {
        BullStreet x = after("person(2, 0, 1)", "beast(9, 1)", "run(1)");
        due(x, "beastOf(0, 0)", GONE);
        due(x, "personOf(0, 4)", 99);
        due(x, "fact(0, 0)", 99);
        due(after("street(30)", "person(2, 29, 1)", "beast(0, 1)"), "personOf(0, 4)", 29);
    }

    private static void ruleStands(int what, int first, int least, int most) {
        BullStreet x = new BullStreet();
        int was = first;
        for (int v = least; v <= most; v++) {
            due(x, "rule(" + what + ", " + v + ")", was);
            was = v;
        }
        dueEach(x, "rule(" + what + ", ?)", BAD, least - 1, most + 1, -1, LOW, HIGH);
        due(x, "rule(" + what + ", " + most + ")", most);
    }

    private static void sightIsOneToNine() { ruleStands(0, 3, 1, 9); }

    private static void riseIsZeroToNine() { ruleStands(1, 2, 0, 9); }

    private static void heapIsTwoToNine() { ruleStands(2, 3, 2, 9); }

    // ---- promises 1 to 11

    private static void aNewObject() {
        BullStreet x = new BullStreet();
        Sentences.dueAll(x, "many(?)", 10, 0, 0, 0, 0, 0, 0);
        Sentences.dueAll(x, "morning(?)", 0, 0, 0, 0);
        for (int c = 0; c < 10; c++) Sentences.dueAll(x, "cellOf(" + c + ", ?)", 3, 0, 0, 0, 0, 0);
        due(x, "again()", NONE);
        due(x, "seed(1)", 1);
        BullStreet used = after("street(4)", "person(1, 0, 1)", "keep()");
        due(used, "again()", 1);
        due(new BullStreet(), "again()", NONE);
        due(new BullStreet(), "many(0)", 10);
    }

    private static void streetIsAsAtFirst() {
        for (int n : new int[] {2, 9, 10, 11, 30}) {
            BullStreet x = after("cell(0, 0, 9)", "cell(0, 1, 4)", "cell(0, 2, 1)", "cell(1, 0, 1)", "cell(9, 2, 1)");
            due(x, "street(" + n + ")", n);
            for (int c = 0; c < n; c++) Sentences.dueAll(x, "cellOf(" + c + ", ?)", 3, 0, 0);
            due(x, "cellOf(" + n + ", 0)", BAD);
        }
        // a CELL that is away for a while comes as at first
        BullStreet x = after("cell(9, 0, 7)", "street(5)", "street(10)");
        due(x, "cellOf(9, 0)", 3);
    }

    private static void whoIsBehindTheLastIsOut() {
        BullStreet x = after("person(2, 4, 1)", "person(2, 5, 1)", "person(2, 9, 1)", "beast(4, 1)", "beast(5, 1)", "beast(9, 1)");
        due(x, "street(5)", 5);
        Sentences.dueAll(x, "personOf(?, 1)", 4, GONE, GONE);
        Sentences.dueAll(x, "beastOf(?, 0)", 4, GONE, GONE);
        due(x, "morning(2)", 2);
        due(x, "street(30)", 30);
        Sentences.dueAll(x, "personOf(?, 1)", 4, GONE, GONE);
        Sentences.dueAll(x, "beastOf(?, 0)", 4, GONE, GONE);
        Sentences.dueAll(x, "cellOf(?, 3)", 0, 0, 0, 0, 1, 0, 0, 0, 0, 0);
        // all of as many as there can be
        BullStreet y = new BullStreet();
        for (int p = 0; p < 20; p++) y.person(2, 9, 1);
        for (int b = 0; b < 6; b++) y.beast(9, 1);
        due(y, "street(9)", 9);
        due(y, "morning(2)", 20);
        for (int b = 0; b < 6; b++) due(y, "beastOf(" + b + ", 0)", GONE);
    }

    private static void cellBecomes() {
        BullStreet x = new BullStreet();
        due(x, "cell(9, 0, 9)", 3);
        due(x, "cell(9, 0, 1)", 9);
        due(x, "cell(9, 1, 4)", 0);
        due(x, "cell(9, 1, 4)", 4);
        due(x, "cell(9, 2, 1)", 0);
        due(x, "cell(9, 2, 0)", 1);
        dueEach(x, "cell(?, 0, 5)", BAD, -1, 10, 29, 30, LOW, HIGH);
        dueEach(x, "cell(0, ?, 1)", BAD, -1, 3, LOW, HIGH);
        Sentences.dueAll(x, "cellOf(9, ?)", 1, 4, 0);
        x.street(30);
        due(x, "cell(29, 0, 2)", 3);
        due(x, "cell(30, 0, 2)", BAD);
    }

    private static void cellTells() {
        BullStreet x = after("cell(9, 0, 5)", "cell(9, 1, 2)", "cell(9, 2, 1)", "person(3, 9, 1)", "person(6, 9, 1)", "person(2, 9, 1)",
            "beast(9, 1)", "beast(8, 1)");
        Sentences.dueAll(x, "cellOf(9, ?)", 5, 2, 1, 3, 2, 1);
        dueEach(x, "cellOf(9, ?)", BAD, -1, 6, LOW, HIGH);
        for (int what = 0; what < 6; what++) dueEach(x, "cellOf(?, " + what + ")", BAD, -1, 10, -9, 30, LOW, HIGH);
    }

    private static void cellTellsNobodyWhoIsOut() {
        BullStreet x = Sentences.laws(after("person(3, 9, 1)", "person(6, 9, 1)", "cell(9, 2, 1)", "beast(9, 1)"), "all leave;");
        due(x, "run(1)", 0);
        due(x, "morning(2)", 2);
        Sentences.dueAll(x, "cellOf(9, ?)", 3, 0, 1, 0, 0, 0);
    }

    private static void ruleBecomes() {
        BullStreet x = new BullStreet();
        Sentences.dueEach(x, "rule(?, 3)", BAD, -1, 3, LOW, HIGH);
        due(x, "rule(0, 9)", 3);
        due(x, "rule(1, 9)", 2);
        due(x, "rule(2, 9)", 3);
        dueEach(x, "rule(?, 9)", 9, 0, 1, 2);
    }

    private static void zBecomes() {
        BullStreet x = new BullStreet();
        int was = 1;
        for (int v : new int[] {0, -1, HIGH, LOW, 1, 12345}) {
            due(x, "seed(" + v + ")", was);
            was = v;
        }
    }

    private static void aPersonComes() {
        BullStreet x = new BullStreet();
        dueEach(x, "person(1, ?, 1)", BAD, -1, 10, -9, LOW, HIGH);
        due(x, "person(1, 9, 3)", 0);
        due(x, "person(7, 0, 1)", 1);
        x.street(2);
        dueEach(x, "person(1, ?, 1)", BAD, 2, 9);
        due(x, "person(1, 1, 1)", 2);
        for (int i = 3; i < 20; i++) x.person(2, 0, 1);
        due(x, "person(0, 0, 1)", BAD);
        due(x, "person(1, 2, 1)", BAD);
        due(x, "person(1, 0, 4)", BAD);
        due(x, "person(1, 0, 1)", FULL);
        due(x, "cellOf(0, 3)", 18);
    }

    private static void personTells() {
        BullStreet x = after("person(4, 3, 2)", "beast(1, 1)");
        Sentences.dueAll(x, "personOf(0, ?)", 4, 3, 2, 0, 2);
        dueEach(x, "personOf(0, ?)", BAD, -1, 5, LOW, HIGH);
        for (int what = 0; what < 5; what++) dueEach(x, "personOf(?, " + what + ")", BAD, -1, 1, 20, LOW, HIGH);
        dueEach(new BullStreet(), "personOf(?, 0)", BAD, 0, -1);
    }

    private static void personTellsOut() {
        BullStreet x = after("person(6, 9, 3)", "beast(8, 1)", "run(1)");
        Sentences.dueAll(x, "personOf(0, ?)", 6, 9, 3, 1, 0);
        x.street(9);
        Sentences.dueAll(x, "personOf(0, ?)", 6, GONE, 3, 1, GONE);
    }

    private static void aBeastComes() {
        BullStreet x = new BullStreet();
        dueEach(x, "beast(?, 1)", BAD, -1, 10, -9, LOW, HIGH);
        due(x, "beast(9, 4)", 0);
        x.street(2);
        dueEach(x, "beast(?, 1)", BAD, 2, 9);
        for (int i = 1; i < 6; i++) due(x, "beast(1, 1)", i);
        due(x, "beast(2, 1)", BAD);
        due(x, "beast(0, 5)", BAD);
        due(x, "beast(0, 1)", FULL);
        due(x, "cellOf(1, 5)", 5);
    }

    private static void beastTells() {
        BullStreet x = after("beast(9, 4)");
        Sentences.dueAll(x, "beastOf(0, ?)", 9, 4, 0);
        dueEach(x, "beastOf(0, ?)", BAD, -1, 3, LOW, HIGH);
        for (int what = 0; what < 3; what++) dueEach(x, "beastOf(?, " + what + ")", BAD, -1, 1, 6, LOW, HIGH);
        x.run(1);
        Sentences.dueAll(x, "beastOf(0, ?)", GONE, 4, 0);
        Sentences.lone(x, 4, 2);
        Sentences.dueAll(x, "beastOf(1, ?)", 4, 2, 1);
    }

    private static void aPersonMoves() {
        BullStreet x = after("person(1, 9, 2)", "person(2, 0, 1)", "run(1)");
        due(x, "personOf(0, 1)", GONE);
        due(x, "moves(0, 0, 6)", 1);
        Sentences.dueAll(x, "personOf(0, ?)", 6, 0, 2, 0);
        due(x, "morning(2)", 0);
        Sentences.dueAll(x, "cellOf(0, ?)", 3, 0, 0, 2, 1);
        due(x, "moves(0, 9, 7)", 6);
        Sentences.dueAll(x, "cellOf(0, ?)", 3, 0, 0, 1, 0);
        due(x, "moves(0, 9, 1)", 7);
        dueEach(x, "moves(?, 0, 1)", BAD, -1, 2, 20, LOW, HIGH);
        dueEach(x, "moves(0, ?, 1)", BAD, -1, 10, -9, LOW, HIGH);
        dueEach(x, "moves(0, 0, ?)", BAD, -1, 0, 8, LOW, HIGH);
        Sentences.dueAll(x, "personOf(0, ?)", 1, 9);
    }

    private static void movesKeepsHurts() {
        BullStreet x = after("person(4, 3, 1)", "beast(4, 1)", "run(1)");
        due(x, "personOf(0, 3)", 2);
        due(x, "moves(0, 0, 1)", 3);
        due(x, "personOf(0, 3)", 2);
        // no WIDTH and no HEAP bars who is moved
        BullStreet y = after("cell(5, 0, 1)");
        for (int p = 0; p < 5; p++) {
            due(y, "person(3, 0, 1)", p);
            due(y, "moves(" + p + ", 5, 3)", 3);
        }
        Sentences.dueAll(y, "cellOf(5, ?)", 1, 0, 0, 5, 5);
    }

    public static void main(String[] args) {
        Sentences.sentence("THE STREET has CELLS 0, 1, .. (2 to 30; 10 at first)", StreetSentencesTest::cellsAreTwoToThirty);
        Sentences.sentence("each with a WIDTH (1 to 9; 3 at first)", StreetSentencesTest::widthIsOneToNine);
        Sentences.sentence("a SLIP (0 to 4; 0 at first)", StreetSentencesTest::slipIsZeroToFour);
        Sentences.sentence("a DOOR or not (none at first)", StreetSentencesTest::doorOrNot);
        Sentences.sentence("PEOPLE, 20 at most, numbered as they come", StreetSentencesTest::peopleAreTwenty);
        Sentences.sentence("have a KIND, a CELL, a PACE (1 to 3)", StreetSentencesTest::paceOfPeopleIsOneToThree);
        Sentences.sentence("HURTS (0 at first), or are OUT", StreetSentencesTest::hurtsAreNoneAtFirst);
        Sentences.sentence("A PERSON is of KIND 1 to 7.", StreetSentencesTest::personsAreOfKindOneToSeven);
        Sentences.sentence("KINDS: 0 person; 1 running, 2 standing, 3 fallen (under person); 4 touching, 5 new (under running); 6 heaped (under fallen); "
            + "7 leaving (under standing).", StreetSentencesTest::kindsAreUnderOneAnother);
        Sentences.sentence("CROWD of a CELL: how many PEOPLE are in it (who aren't OUT).", StreetSentencesTest::crowdIsWithoutWhoIsOut);
        Sentences.sentence("BEASTS, 6 at most, numbered as they come", StreetSentencesTest::beastsAreSix);
        Sentences.sentence("have a CELL, a PACE (1 to 4)", StreetSentencesTest::paceOfBeastsIsOneToFour);
        Sentences.sentence("are ALONE or not (not at first), or OUT", StreetSentencesTest::nobodyIsAloneAtFirst);
        Sentences.sentence("NEAR of a PERSON: the least number of CELLS from a BEAST that isn't OUT and isn't ahead of him",
            StreetSentencesTest::nearIsTheLeastFromBehind);
        Sentences.sentence("(in his CELL 0)", StreetSentencesTest::nearIsZeroInHisCell);
        Sentences.sentence("a BEAST that isn't OUT [..] 99 without one", StreetSentencesTest::nearIsWithoutWhoIsOut);
        Sentences.sentence("0 SIGHT (1 to 9; 3 at first)", StreetSentencesTest::sightIsOneToNine);
        Sentences.sentence("1 RISE (0 to 9; 2 at first)", StreetSentencesTest::riseIsZeroToNine);
        Sentences.sentence("2 HEAP (2 to 9; 3 at first)", StreetSentencesTest::heapIsTwoToNine);
        Sentences.sentence("Ten CELLS, nobody; nothing is kept.", StreetSentencesTest::aNewObject);
        Sentences.sentence("THE STREET has n CELLS, as at first (WIDTH, SLIP, DOOR)", StreetSentencesTest::streetIsAsAtFirst);
        Sentences.sentence("PEOPLE, BEASTS behind the last one are OUT: n. BAD.", StreetSentencesTest::whoIsBehindTheLastIsOut);
        Sentences.sentence("Of a CELL what = 0 WIDTH, 1 SLIP, 2 DOOR (1, 0) becomes v: what it was. BAD.", StreetSentencesTest::cellBecomes);
        Sentences.sentence("Of a CELL: what = 0 WIDTH, 1 SLIP, 2 DOOR, 3 CROWD, 4 fallen ones (heaped, too), 5 BEASTS that aren't OUT. BAD.",
            StreetSentencesTest::cellTells);
        Sentences.sentence("5 BEASTS that aren't OUT", StreetSentencesTest::cellTellsNobodyWhoIsOut);
        Sentences.sentence("A RULE becomes v: what it was. BAD.", StreetSentencesTest::ruleBecomes);
        Sentences.sentence("z becomes v: what it was.", StreetSentencesTest::zBecomes);
        Sentences.sentence("A PERSON of a KIND (1 to 7): his number. BAD; FULL.", StreetSentencesTest::aPersonComes);
        Sentences.sentence("Of a PERSON: what = 0 KIND, 1 CELL (-9: OUT), 2 PACE, 3 HURTS, 4 NEAR (-9: OUT). BAD.", StreetSentencesTest::personTells);
        Sentences.sentence("1 CELL (-9: OUT) [..] 4 NEAR (-9: OUT)", StreetSentencesTest::personTellsOut);
        Sentences.sentence("A BEAST: its number. BAD; FULL.", StreetSentencesTest::aBeastComes);
        Sentences.sentence("Of a BEAST: what = 0 CELL (-9: OUT), 1 PACE, 2 1 if it is ALONE, else 0. BAD.", StreetSentencesTest::beastTells);
        Sentences.sentence("A PERSON (OUT or not) comes to a CELL, and is of a KIND (1 to 7): the KIND that he was. BAD.", StreetSentencesTest::aPersonMoves);
        Sentences.sentence("comes to a CELL, and is of a KIND", StreetSentencesTest::movesKeepsHurts);
        Sentences.end();
    }
}
