/** What 'Terms' says of refusals ahead of ======== 1, call by call, in a street where each of them has something to spoil. */
public final class RefusalSentencesTest {
    private static final int BAD = Sentences.BAD, FULL = Sentences.FULL, NONE = Sentences.NONE, GONE = Sentences.GONE;
    private static final int NOTHING = Sentences.NOTHING, OUTSIDE = Sentences.OUTSIDE, OTHER_SORT = Sentences.OTHER_SORT, BELOW_ZERO = Sentences.BELOW_ZERO;

    private static void refused(int want, String... calls) {
        for (String call : calls) {
            Sentences.due(Sentences.told(), call, want);
            Sentences.changesOnly(Sentences::told, call);
        }
    }

    private static void refusedByAFullOne(int want, String... calls) {
        for (String call : calls) {
            Sentences.due(Sentences.full(), call, want);
            Sentences.changesOnly(Sentences::full, call);
        }
    }

    private static void badOfTheStreet() {
        refused(BAD, "street(1)", "street(31)", "street(-1)", "street(LOW)", "street(HIGH)", "cell(-1, 0, 5)", "cell(9, 0, 5)", "cell(0, -1, 1)", "cell(0, 3, 1)",
            "cell(0, 0, 0)", "cell(0, 0, 10)", "cell(0, 1, -1)", "cell(0, 1, 5)", "cell(0, 2, -1)", "cell(0, 2, 2)", "cell(LOW, LOW, LOW)", "cell(HIGH, HIGH, HIGH)",
            "cellOf(-1, 0)", "cellOf(9, 3)", "cellOf(0, -1)", "cellOf(0, 6)", "rule(-1, 3)", "rule(3, 3)", "rule(0, 0)", "rule(0, 10)", "rule(1, -1)", "rule(1, 10)",
            "rule(2, 1)", "rule(2, 10)");
    }

    private static void badOfPeopleAndBeasts() {
        refused(BAD, "person(0, 0, 1)", "person(8, 0, 1)", "person(1, -1, 1)", "person(1, 9, 1)", "person(1, 0, 0)", "person(1, 0, 4)", "personOf(-1, 0)", "personOf(6, 0)",
            "personOf(0, -1)", "personOf(0, 5)", "beast(-1, 1)", "beast(9, 1)", "beast(0, 0)", "beast(0, 5)", "beastOf(-1, 0)", "beastOf(2, 0)", "beastOf(0, -1)", "beastOf(0, 3)",
            "moves(-1, 0, 1)", "moves(6, 0, 1)", "moves(0, -1, 1)", "moves(0, 9, 1)", "moves(0, 0, 0)", "moves(0, 0, 8)", "moves(4, 9, 1)", "moves(4, 0, 8)");
    }

    private static void badOfLaws() {
        refused(BAD, "feed(59, 0)", "feed(59, 9)", "feed(59, -1)", "feed(59, LOW)", "feed(59, HIGH)", "says(-1)", "says(6)", "fact(-1, 0)", "fact(6, 0)", "fact(0, -1)", "fact(0, 6)",
            "fact(4, 6)");
    }

    private static void badOfTenths() {
        refused(BAD, "run(-1)", "run(61)", "run(LOW)", "run(HIGH)", "morning(-1)", "morning(4)", "odds(-1, 1, 0)", "odds(6, 1, 0)", "odds(0, -1, 0)", "odds(0, 61, 0)",
            "odds(0, 1, -1)", "odds(0, 1, 2)", "begin(-1, 1)", "begin(6, 1)", "begin(0, -1)", "begin(0, 61)", "door(-1)", "door(61)", "limit(-1)", "limit(61)", "law(-1, 1)",
            "law(4, 1)", "law(0, -1)", "law(0, 61)", "together(-1)", "together(61)", "harm(-1)", "harm(61)", "prove(-1)", "prove(61)", "prove(LOW)", "prove(HIGH)");
    }

    private static void badOfTheHost() {
        refused(BAD, "sheet(-1, 0, 1)", "sheet(4, 0, 1)", "sheet(0, -2, 1)", "sheet(0, 5, 1)", "sheet(0, 0, 41)", "sheet(4, -1, 0)", "put(-1, 0, 1)", "put(4, 0, 1)",
            "item(-1, 0, 0)", "item(4, 0, 0)", "item(0, -1, 0)", "item(0, 5, 0)", "widths(-1, 0, 2)", "widths(4, 0, 2)", "widths(0, 0, -1)", "widths(0, 0, 31)",
            "shelf(-1, 0, 0)", "shelf(4, 0, 0)", "shelf(0, -1, 0)", "shelf(0, 4, 0)", "shelf(0, 0, -1)", "shelf(0, 0, 6)", "shelf(0, 1, -1)", "shelf(0, 1, 2)", "shelf(0, 2, -1)",
            "shelf(0, 2, 4)", "taken(-1, 0)", "taken(4, 0)", "taken(0, -1)", "taken(0, 9)", "taken(0, 15)", "many(-1)", "many(7)");
    }

    private static void fullOnes() {
        refusedByAFullOne(FULL, "person(1, 0, 1)", "person(7, 8, 3)", "beast(0, 1)", "beast(8, 4)", "feed(59, 1)", "feed(59, 8)");
    }

    private static void noneOfThem() {
        refused(NONE, "fact(4, 0)", "fact(4, 5)", "trace(-1)", "trace(7)", "trace(30)");
        refused(GONE, "row(-1, 0)", "row(3, 0)", "row(0, -1)", "row(0, 3)", "alterRow(-1, 0, 7)", "alterRow(3, 0, 7)", "alterRow(0, -1, 7)", "alterRow(0, 3, 7)", "says(4)");
        BullStreet x = Sentences.after("run(1)");
        Sentences.due(x, "door(60)", NONE);
        Sentences.due(x, "again()", NONE);
        Sentences.changesOnly(() -> Sentences.after("person(1, 3, 1)", "run(1)"), "again()");
        Sentences.changesOnly(() -> Sentences.after("person(1, 3, 1)", "run(1)"), "door(60)");
    }

    private static void nothingWhereSomethingIsAsked() {
        refused(NOTHING, "put(3, 0, 1)", "put(3, -1, 1)", "item(3, 0, 0)", "item(3, 4, 99)", "widths(3, 0, 0)", "widths(3, 0, 5)", "taken(3, 0)", "taken(3, 8)", "taken(3, 14)");
    }

    private static void aPlaceOutside() {
        refused(OUTSIDE, "put(0, -1, 1)", "put(0, 5, 1)", "put(1, 2, 1)", "put(2, 0, 1)", "item(0, 0, -1)", "item(0, 0, 5)", "item(1, 3, 2)", "item(2, 4, 0)", "widths(0, 5, 1)",
            "widths(0, -1, 1)");
    }

    private static void anotherSortOrKind() {
        refused(OTHER_SORT, "item(0, 1, 0)", "item(0, 4, 0)", "item(1, 2, 0)", "item(2, 0, 0)", "widths(1, 0, 1)", "widths(2, 0, 0)", "taken(0, 2)", "taken(0, 5)", "taken(0, 8)", "taken(0, 10)",
            "taken(1, 0)", "taken(1, 11)", "taken(2, 0)", "taken(2, 8)", "taken(2, 11)");
    }

    private static void aSizeBelowZero() { refused(BELOW_ZERO, "sheet(0, 0, -1)", "sheet(3, 4, -1)", "sheet(1, 2, LOW)"); }

    private static void theTapeIsUsedUp() {
        BullStreet x = Sentences.told();
        Sentences.feed(x, "x");
        Sentences.due(x, "read()", -109);
        Sentences.due(x, "many(5)", 0);
        // all else is as it was, the LAWS, too
        BullStreet y = Sentences.then(Sentences.told(), "read()"), z = Sentences.then(Sentences.told(), "read()");
        Sentences.due("a FAULT", Sentences.read(y, "all run;x"), -108);
        Sentences.alike("read()", y, z);
    }

    private static void theFirstNamed() {
        String[] bad = {"person(0, 0, 1)", "person(1, 9, 1)", "person(1, 0, 4)", "beast(9, 1)", "beast(0, 5)", "feed(0, 0)", "feed(0, 9)", "fact(4, 6)", "fact(4, -1)",
            "put(4, 99, 1)", "item(4, 9, 99)", "item(3, 9, 99)", "item(0, 9, 99)", "widths(4, 99, 0)", "widths(3, 99, 31)", "widths(1, 99, -1)", "sheet(4, 0, -1)", "sheet(0, 9, -1)",
            "taken(4, 0)", "taken(3, 9)", "taken(2, 9)"};
        refusedByAFullOne(BAD, bad);
        refused(OTHER_SORT, "item(0, 1, 99)", "item(2, 0, -1)", "widths(1, 99, 5)", "widths(2, -1, 5)");
        refused(NOTHING, "put(3, 99, 1)", "item(3, 2, 99)", "widths(3, 99, 5)");
    }

    private static void whatIsOnlyAskedChangesNothing() {
        String[] asked = {"cellOf(3, 3)", "cellOf(8, 5)", "personOf(0, 4)", "personOf(4, 1)", "beastOf(1, 2)", "says(0)", "says(3)", "fact(0, 0)", "fact(3, 5)", "run(0)", "morning(3)",
            "row(1, 1)", "judge()", "item(0, 0, 2)", "widths(0, 0, 0)", "taken(0, 4)", "taken(2, 10)", "trace(3)", "many(6)"};
        for (String call : asked) {
            Sentences.changesOnly(Sentences::told, call);
            Sentences.changesOnly(Sentences::full, call);
        }
    }

    private static void whatBecomesAnotherChangesNothingElse() {
        Sentences.changesOnly(Sentences::told, "act(0, 0, 7)", "trace(", "many(6)", "kept: many(6)");
        Sentences.changesOnly(Sentences::told, "act(3, 0, 7)", "trace(", "many(6)", "kept: many(6)");
        Sentences.changesOnly(Sentences::told, "put(0, 3, 7)", "item(0, 0, 3)");
        Sentences.changesOnly(Sentences::told, "sheet(0, 1, 3)", "item(0");
        Sentences.changesOnly(Sentences::told, "sheet(0, -1, 3)", "item(0");
        Sentences.changesOnly(Sentences::told, "shelf(0, 1, 0)", "taken(0");
        Sentences.changesOnly(Sentences::told, "alterRow(1, 2, 7)", "row(1, 2)", "harm(60)");
        Sentences.changesOnly(Sentences::told, "feed(32, 1)", "many(5)");
        Sentences.changesOnly(Sentences::told, "rule(1, 9)", "RULE 1", "harm(60)");
        Sentences.changesOnly(Sentences::told, "seed(9)", "z ", "harm(60)");
        Sentences.changesOnly(Sentences::told, "cell(8, 0, 9)", "cellOf(8, 0)", "harm(60)");
        Sentences.changesOnly(Sentences::told, "widths(0, 0, 3)", "cellOf(0, 0)", "cellOf(1, 0)", "harm(60)");
        Sentences.changesOnly(Sentences::told, "widths(0, 4, 3)");
        Sentences.changesOnly(Sentences::told, "widths(0, 1, 9)", "cellOf(0, 0)", "harm(60)");
    }

    public static void main(String[] args) {
        String changesNothing = "Answers below 0, where not told otherwise, are refusals; such a call changes nothing";
        Sentences.sentence(changesNothing, RefusalSentencesTest::badOfTheStreet);
        Sentences.sentence(changesNothing, RefusalSentencesTest::badOfPeopleAndBeasts);
        Sentences.sentence(changesNothing, RefusalSentencesTest::badOfLaws);
        Sentences.sentence(changesNothing, RefusalSentencesTest::badOfTenths);
        Sentences.sentence("BAD (-1) there is no such thing, or a number is not as told", RefusalSentencesTest::badOfTheHost);
        Sentences.sentence("FULL (-2)", RefusalSentencesTest::fullOnes);
        Sentences.sentence("NONE (-3)", RefusalSentencesTest::noneOfThem);
        Sentences.sentence("-11 nothing where something is asked", RefusalSentencesTest::nothingWhereSomethingIsAsked);
        Sentences.sentence("-12 a place outside", RefusalSentencesTest::aPlaceOutside);
        Sentences.sentence("-13 a thing of another sort or kind", RefusalSentencesTest::anotherSortOrKind);
        Sentences.sentence("-14 a size below 0", RefusalSentencesTest::aSizeBelowZero);
        Sentences.sentence("(but that THE TAPE is used up by read())", RefusalSentencesTest::theTapeIsUsedUp);
        Sentences.sentence("of several the first named", RefusalSentencesTest::theFirstNamed);
        Sentences.sentence("Nothing is promised beyond the answers and state changes described above", RefusalSentencesTest::whatIsOnlyAskedChangesNothing);
        Sentences.sentence("the answers and state changes described above", RefusalSentencesTest::whatBecomesAnotherChangesNothingElse);
        Sentences.end();
    }
}
