/** 'Terms', ======== 3, and promises 12 to 15, sentence by sentence. */
public final class LawSentencesTest {
    private static final int LOW = Sentences.LOW, HIGH = Sentences.HIGH;
    private static final int BAD = Sentences.BAD, FULL = Sentences.FULL, NONE = Sentences.NONE, GONE = Sentences.GONE;
    private static final String[] WHO = {"all", "running", "standing", "fallen", "touching", "new", "heaped", "leaving"};
    private static final String[] ACTS = {"run", "stand", "leave", "down"};
    private static final String[] FACTS = {"near", "crowd", "ahead", "place", "tick", "lone"};
    private static final long BLANKS = 0x2020202020202020L;

    private static void due(BullStreet x, String call, int want) { Sentences.due(x, call, want); }

    private static void dueAll(BullStreet x, String call, int... wants) { Sentences.dueAll(x, call, wants); }

    private static BullStreet after(String... calls) { return Sentences.after(calls); }

    private static void right(String text, int clauses) { Sentences.due("read() of '" + text + "'", Sentences.read(new BullStreet(), text), clauses); }

    private static void fault(String text, int place) { Sentences.due("read() of '" + text + "'", Sentences.read(new BullStreet(), text), -100 - place); }

    /** Whether a COND holds for PERSON 0. */
    private static void holds(BullStreet x, String cond, boolean want) {
        Sentences.laws(x, "all run if " + cond + ";");
        Sentences.due("says(0) by '" + cond + "'", x.says(0), want ? 0 : GONE);
    }

    private static BullStreet one() { return after("person(2, 4, 1)"); }

    private static String times(String text, int n) { return text.repeat(n); }

    // ---- the tape

    private static void tapeTakesTwoHundred() {
        BullStreet x = new BullStreet();
        for (int i = 1; i <= 24; i++) due(x, "feed(" + BLANKS + ", 8)", 8 * i);
        due(x, "feed(" + BLANKS + ", 7)", 199);
        Sentences.dueEach(x, "feed(" + BLANKS + ", ?)", FULL, 2, 3, 8);
        due(x, "many(5)", 199);
        due(x, "feed(59, 1)", 200);
        Sentences.dueEach(x, "feed(0, ?)", FULL, 1, 2, 8);
        due(x, "many(5)", 200);
        // the byte behind 199 blanks is ';', at place 199
        due(x, "read()", -299);
        BullStreet y = new BullStreet();
        for (int i = 1; i <= 25; i++) due(y, "feed(" + BLANKS + ", 8)", 8 * i);
        due(y, "feed(32, 1)", FULL);
        due(y, "read()", 0);
    }

    private static void readUsesTheTapeUp() {
        BullStreet x = new BullStreet();
        Sentences.feed(x, "all run;");
        due(x, "read()", 1);
        due(x, "many(5)", 0);
        due(x, "read()", 0);
        Sentences.feed(x, "all ran;");
        due(x, "read()", -104);
        due(x, "many(5)", 0);
        Sentences.feed(x, "all run;");
        due(x, "many(5)", 8);
        due(x, "read()", 1);
        // a full TAPE is empty then, too
        Sentences.feed(x, times(";", 200));
        due(x, "read()", -100);
        due(x, "feed(" + BLANKS + ", 8)", 8);
        Sentences.feed(x, times(" ", 192));
        due(x, "read()", 0);
        due(x, "read()", 0);
    }

    private static void feedTakesOneToEight() {
        BullStreet x = new BullStreet();
        Sentences.dueEach(x, "feed(" + BLANKS + ", ?)", BAD, 0, 9, -1, LOW, HIGH);
        due(x, "many(5)", 0);
        int has = 0;
        for (int n = 1; n <= 8; n++) {
            has += n;
            due(x, "feed(" + BLANKS + ", " + n + ")", has);
            due(x, "many(5)", has);
        }
    }

    private static void theLowestFirst() {
        // "all run;" from its lowest byte on; what is above n bytes doesn't come
        due(after("feed(4282489428706618465, 8)"), "read()", 1);
        BullStreet x = after("feed(" + 0x6C6120L + ", 3)");
        due(x, "feed(" + 0xFFFFFFFFFFFF6CL + ", 1)", 4);
        due(x, "feed(" + (0x3b6e757220L | 0xFFFFFFL << 40) + ", 5)", 9);
        due(x, "read()", 1);
        // bytes above 127 are bytes as others are
        BullStreet y = after("feed(-1, 8)");
        due(y, "many(5)", 8);
        due(y, "read()", -100);
        BullStreet z = after("feed(" + 0x8000000000000020L + ", 8)");
        due(z, "read()", -101);
    }

    private static void feedBadAheadOfFull() {
        BullStreet x = new BullStreet();
        for (int i = 0; i < 25; i++) x.feed(BLANKS, 8);
        Sentences.dueEach(x, "feed(0, ?)", BAD, 0, 9, LOW, HIGH);
        due(x, "feed(0, 1)", FULL);
        due(x, "many(5)", 200);
    }

    // ---- the text

    private static void clausesAreEight() {
        for (int n = 0; n <= 8; n++) right(times("all run;", n), n);
        for (int n = 9; n <= 25; n++) fault(times("all run;", n), 64);
        fault(times("all run;", 8) + "   new stand;", 67);
        fault(times("all run;", 8) + ";", 64);
        fault(times("all run;", 8) + " 7", 65);
        right(times("all run;", 8) + times(" ", 136), 8);
        BullStreet x = new BullStreet();
        Sentences.laws(x, times("all run;", 8));
        due(x, "many(3)", 8);
    }

    private static void clausesWithAndWithoutCond() {
        right("all run;new stand if 1=1;heaped leave;leaving down if near<1 or 2=2;", 4);
        fault("all;", 3);
        fault("all run if;", 10);
        fault("all run 1=1;", 8);
        fault("all if 1=1;", 4);
        fault("all run,new stand;", 7);
        fault("all run new stand;", 8);
        fault("if 1=1 all run;", 0);
    }

    private static void everyWhoAndAct() {
        for (String who : WHO) for (String act : ACTS) right(who + " " + act + ";", 1);
        for (String who : new String[] {"person", "beast", "near", "run", "if", "or", "al", "alls", "runnin", "heape"}) fault(who + " run;", 0);
        for (String act : new String[] {"all", "new", "near", "if", "runs", "ru", "standing", "go"}) fault("all " + act + ";", 4);
    }

    private static void everySignAndValue() {
        for (String sign : new String[] {"<", "=", ">"}) {
            for (String fact : FACTS) {
                right("all run if " + fact + sign + "1;", 1);
                right("all run if 1" + sign + fact + ";", 1);
            }
        }
        for (char sign : new char[] {';', '?', '!', '+', '-', '(', ')'}) fault("all run if near" + sign + "1;", 15);
        fault("all run if near<=1;", 16);
        fault("all run if near==1;", 16);
        fault("all run if near 1;", 16);
        for (String value : new String[] {"all", "run", "if", "or", "and", "pace", "nearly"}) fault("all run if " + value + "<1;", 11);
    }

    private static void numbersAreOfOneToFourDigits() {
        for (String n : new String[] {"0", "9", "10", "99", "100", "999", "1000", "9999", "0000", "0001"}) {
            right("all run if near<" + n + ";", 1);
            right("all run if " + n + "<near;", 1);
        }
        for (String n : new String[] {"00000", "00001", "10000", "12345", "99999", "123456789", "4294967296"}) {
            fault("all run if near<" + n + ";", 16);
            fault("all run if " + n + "<near;", 11);
        }
        BullStreet x = one();
        holds(x, "9999>9998 and 9998<9999 and not 9999<9999", true);
        holds(x, "0=0000 and 0004=place and 4=place", true);
        holds(x, "near>98 and near<100 and near<9999", true);
        holds(x, "9999<near or 1000<near or 0>near", false);
    }

    private static void namesAreLettersAToZ() {
        fault("`all run;", 0);
        fault("all` run;", 3);
        fault("all{ run;", 3);
        fault("All run;", 0);
        fault("aLl run;", 0);
        fault("alZ run;", 0);
        fault("allz run;", 0);
        fault("zall run;", 0);
        fault("all runz;", 4);
        fault("all azrun;", 4);
        fault("allrun;", 0);
        fault("all runif 1=1;", 4);
        fault("all run ifnear=1;", 8);
        fault("all run if notnear=1;", 11);
        fault("all run if 1=1 andnear=1;", 15);
        fault("all run if 1=nearand 1=1;", 13);
    }

    private static void namesAndNumbersPartThemselves() {
        right("all run if 1=1and 2=2or 3=3;", 1);
        right("all run if not(1=1)and(2=2)or not(near=2);", 1);
        right("all run if near<3or crowd>4and lone=5;new stand;", 2);
        fault("all run if near3;", 15);
        fault("all run if 3near;", 12);
        right("all run if3=3;", 1);
    }

    private static void blanksStandElsewhere() {
        right("  all   run   if   not   (   near   <   1   )   ;   ", 1);
        right(" ", 0);
        right(times(" ", 200), 0);
        for (char c : new char[] {9, 10, 13, 0, 31, 33, 160, 255}) {
            fault("all run" + c + ";", 7);
            fault(c + "all run;", 0);
        }
        fault("all run if 1 2<3;", 13);
        fault("al l run;", 0);
        fault("all ru n;", 4);
    }

    private static void threeAreOpen() {
        right("all run if (((1=1)));", 1);
        right("all run if (1=1 and (2=2 or (3=3)));", 1);
        fault("all run if ((((1=1))));", 14);
        fault("all run if (1=1 and (2=2 or (3=3 and (4=4))));", 37);
        fault("all run if not(not(not(not(1=1))));", 26);
        fault("all run if ((((", 14);
        // those that are closed count no more, nor those of another CLAUSE
        right("all run if (((1=1))) and (((2=2))) or ((3=3) and (4=4) and ((5=5) or (6=6)));", 1);
        right("all run if (((1=1)));new run if (((2=2)));", 2);
        right("all run if (((1=1)) and ((2=2)));", 1);
        fault("all run if (((1=1)) and (((2=2))));", 26);
    }

    private static void bracketsMatch() {
        fault("all run if (1=1;", 15);
        fault("all run if 1=1);", 14);
        fault("all run if ();", 12);
        fault("all run if (1=1));", 16);
        fault("all run if (near)=1;", 16);
        fault("all run (1=1);", 8);
        fault("(all run;)", 0);
    }

    private static void faultIsTheFirst() {
        fault("x x x", 0);
        fault("  x", 2);
        fault("all x x", 4);
        fault("all run x", 8);
        fault("all run;x", 8);
        fault("all run if 12345=x;", 11);
        fault("all run if 1=x 12345;", 13);
        fault("all run if 1=1 1=1;", 15);
        fault("all run if 1=1 if 1=1;", 15);
        fault("all run if 1=1 or and 1=1;", 18);
        fault("all run if 1=1 or or 1=1;", 18);
        fault("all run if 1=1 and and 1=1;", 19);
        fault("all run if 1=1 or;", 17);
        fault("all run if 1=1 and;", 18);
        fault("all run if (1=1 or);", 18);
        fault("all run if (1=1 and);", 19);
        fault("all run if not;", 14);
        fault("all run if (not);", 15);
        fault("all run if or 1=1;", 11);
        fault("all run if 1=1 not 1=1;", 15);
        fault("all run all run;", 8);
        fault("all all run;", 4);
        fault(";", 0);
        fault("all run;;", 8);
        fault("all;", 3);
        fault("all run if;", 10);
        fault("all run if 1;", 12);
        fault("all run if 1=;", 13);
        fault("7 run;", 0);
        fault("all 7;", 4);
        fault("0", 0);
        fault("0 all run;", 0);
        fault("all run;0", 8);
        fault("all 0;", 4);
        fault("all run 0;", 8);
        fault("all run if 1=1 0;", 15);
        fault(times(" ", 199) + "x", 199);
    }

    private static void faultIsTheEnd() {
        String[] begun = {"all", "all run", "all run if", "all run if not", "all run if 1", "all run if 1=", "all run if 1=1", "all run if 1=1 and",
            "all run if 1=1 or", "all run if (", "all run if (1=1", "all run if (1=1)", "all run;new", "all run if 9999"};
        for (String each : begun) {
            fault(each, each.length());
            fault(each + "   ", each.length() + 3);
            fault(each + times(" ", 200 - each.length()), 200);
        }
        fault(times("all run;", 7) + "all run", 63);
        // a NAME or NUMBER that goes up to the last of 200 bytes
        for (String each : begun) if (!each.endsWith(" ")) fault(times(" ", 200 - each.length()) + each, 200);
        fault(times(" ", 198) + "al", 198);
        fault(times(" ", 190) + "all standi", 194);
        fault(times(" ", 184) + "all run if 12345", 195);
    }

    private static void readTellsLaws() {
        BullStreet x = one();
        Sentences.due("two CLAUSES", Sentences.read(x, "new run;all run;"), 2);
        due(x, "many(3)", 2);
        due(x, "says(0)", 1);
        Sentences.due("a FAULT", Sentences.read(x, "all run;all run;all run;all run"), -131);
        due(x, "many(3)", 2);
        due(x, "says(0)", 1);
        Sentences.due("in place of all", Sentences.read(x, "standing run;"), 1);
        due(x, "many(3)", 1);
        due(x, "says(0)", 0);
        due(x, "read()", 0);
        due(x, "many(3)", 0);
        due(x, "says(0)", GONE);
    }

    // ---- what a cond means

    private static void andBindsCloser() {
        for (int bits = 0; bits < 8; bits++) {
            BullStreet x = one();
            boolean a = (bits & 1) != 0, b = (bits & 2) != 0, c = (bits & 4) != 0;
            String p = a ? "1=1" : "1=2", q = b ? "2=2" : "2=3", r = c ? "3=3" : "3=4";
            holds(x, p + " or " + q + " and " + r, a || b && c);
            holds(x, p + " and " + q + " or " + r, a && b || c);
            holds(x, "(" + p + " or " + q + ") and " + r, (a || b) && c);
            holds(x, p + " and (" + q + " or " + r + ")", a && (b || c));
            holds(x, "not " + p + " and " + q + " or not " + r, !a && b || !c);
            holds(x, "not (" + p + " and " + q + ") or " + r, !(a && b) || c);
            holds(x, "not (" + p + " or not (" + q + " and not (" + r + ")))", !(a || !(b && !c)));
            holds(x, p + " and " + q + " and " + r, a && b && c);
            holds(x, p + " or " + q + " or " + r, a || b || c);
        }
    }

    private static void notsAsOneLikes() {
        BullStreet x = one();
        for (int n = 0; n <= 12; n++) {
            holds(x, times("not ", n) + "1=1", n % 2 == 0);
            holds(x, times("not ", n) + "(1=2)", n % 2 == 1);
        }
        right("all run if " + times("not ", 46) + "1=1;", 1);
    }

    private static void signsCompare() {
        BullStreet x = one();
        for (int left = 3; left <= 5; left++) {
            holds(x, left + "<4", left < 4);
            holds(x, left + "=4", left == 4);
            holds(x, left + ">4", left > 4);
            holds(x, left + "<place", left < 4);
            holds(x, left + "=place", left == 4);
            holds(x, left + ">place", left > 4);
            holds(x, "place<" + left, 4 < left);
            holds(x, "place>" + left, 4 > left);
        }
    }

    private static void longCondsHold() {
        // as many parts as 200 bytes have room for
        BullStreet x = one();
        holds(x, "1=1" + times("or 1=2", 30), true);
        holds(x, "1=2" + times("or 1=2", 29) + "or 1=1", true);
        holds(x, "1=2" + times("or 1=2", 30), false);
        holds(x, "1=1" + times("and 1=1", 26), true);
        holds(x, "1=1" + times("and 1=1", 25) + "and 1=2", false);
        holds(x, "1=2" + times("and 1=1", 26), false);
    }

    // ---- facts

    private static void nearIsNear() {
        BullStreet x = after("street(30)", "person(2, 29, 1)", "beast(0, 1)");
        due(x, "fact(0, 0)", 29);
        holds(x, "near=29", true);
        x.beast(29, 1);
        due(x, "fact(0, 0)", 0);
        holds(x, "near=0", true);
        BullStreet y = after("person(2, 4, 1)", "beast(5, 1)");
        due(y, "fact(0, 0)", 99);
        holds(y, "near=99", true);
    }

    private static void crowdIsHeToo() {
        BullStreet x = one();
        due(x, "fact(0, 1)", 1);
        holds(x, "crowd=1", true);
        for (int i = 1; i < 20; i++) x.person(3, 4, 1);
        due(x, "fact(0, 1)", 20);
        holds(x, "crowd=20", true);
    }

    private static void aheadIsTheNextCell() {
        BullStreet x = after("person(2, 8, 1)");
        due(x, "fact(0, 2)", 0);
        holds(x, "ahead=0", true);
        x.person(6, 9, 1);
        x.person(1, 9, 1);
        due(x, "fact(0, 2)", 2);
        holds(x, "ahead=2", true);
        x.moves(0, 9, 2);
        due(x, "fact(0, 2)", 99);
        holds(x, "ahead=99", true);
        // the CELL behind the last one is none, though there was one
        x.street(9);
        x.moves(0, 8, 2);
        due(x, "fact(0, 2)", 99);
        x.street(30);
        due(x, "fact(0, 2)", 0);
        x.moves(0, 29, 2);
        due(x, "fact(0, 2)", 99);
    }

    private static void placeIsHisCell() {
        BullStreet x = after("street(30)", "person(2, 0, 1)");
        due(x, "fact(0, 3)", 0);
        holds(x, "place=0", true);
        x.moves(0, 29, 2);
        due(x, "fact(0, 3)", 29);
        holds(x, "place=29", true);
    }

    private static void tickIsTick() {
        BullStreet x = one();
        due(x, "fact(0, 4)", 0);
        holds(x, "tick=0", true);
        x.run(60);
        x.run(60);
        due(x, "fact(0, 4)", 120);
        holds(x, "tick=120", true);
    }

    private static void loneIsHowManyAreAlone() {
        BullStreet x = one();
        due(x, "fact(0, 5)", 0);
        x.beast(9, 1);
        due(x, "fact(0, 5)", 0);
        x.rule(0, 1);
        Sentences.lone(x, 7, 1);
        Sentences.lone(x, 8, 1);
        due(x, "fact(0, 5)", 2);
        holds(x, "lone=2", true);
        x.street(8);
        due(x, "fact(0, 5)", 1);
        x.street(7);
        due(x, "fact(0, 5)", 0);
        holds(x, "lone=0", true);
        // in the first CELL it counts as well
        BullStreet y = new BullStreet();
        Sentences.lone(y, 1, 1);
        Sentences.then(y, "person(2, 0, 1)", "run(1)");
        due(y, "beastOf(0, 0)", 0);
        due(y, "fact(0, 5)", 1);
    }

    private static void asAllIsWhenItIsHisTurn() {
        // TICK is 1 more already
        BullStreet x = Sentences.laws(one(), "all down if tick=1;");
        due(x, "says(0)", GONE);
        x.run(1);
        due(x, "personOf(0, 0)", 3);
        // the BEASTS went already
        BullStreet y = Sentences.laws(after("person(2, 4, 1)", "beast(1, 2)"), "all down if near=1;");
        due(y, "says(0)", GONE);
        y.run(1);
        due(y, "personOf(0, 0)", 3);
        // it is ALONE already
        BullStreet z = after("person(2, 9, 1)", "cell(1, 1, 4)", "beast(0, 1)", "seed(" + Sentences.seedFor(false, 0) + ")");
        Sentences.laws(z, "all down if lone=1;").run(1);
        due(z, "personOf(0, 0)", 3);
        // who comes ahead of him went already, who comes behind him didn't
        BullStreet u = Sentences.laws(after("person(1, 4, 1)", "person(2, 5, 1)", "person(2, 4, 1)"), "standing down if crowd=2;");
        u.run(1);
        dueAll(u, "personOf(?, 0)", 1, 3, 2);
        BullStreet v = Sentences.laws(after("person(2, 5, 1)", "person(1, 4, 1)"), "standing down if crowd=2;");
        v.run(1);
        dueAll(v, "personOf(?, 0)", 2, 1);
        BullStreet w = Sentences.laws(after("person(1, 5, 1)", "person(2, 4, 1)", "person(2, 5, 1)"), "standing down if ahead=1;standing stand if ahead=0;");
        w.run(1);
        dueAll(w, "personOf(?, 0)", 1, 3, 3);
    }

    // ---- says, fact

    private static void saysWhichClause() {
        BullStreet x = new BullStreet();
        for (int kind = 1; kind <= 7; kind++) x.person(kind, kind, 1);
        dueAll(x, "says(?)", GONE, GONE, GONE, GONE, GONE, GONE, GONE, BAD);
        Sentences.laws(x, "leaving run;heaped run;new run;touching run;fallen run;standing run;running run;");
        dueAll(x, "says(?)", 6, 5, 4, 3, 2, 1, 0);
        Sentences.laws(x, "running run;standing run;fallen run;all run;");
        dueAll(x, "says(?)", 0, 1, 2, 0, 0, 2, 1);
        Sentences.laws(x, "touching run;new run;heaped run;leaving run;");
        dueAll(x, "says(?)", GONE, GONE, GONE, 0, 1, 2, 3);
        Sentences.laws(x, times("all run if 1=2;", 7) + "all run;");
        dueAll(x, "says(?)", 7, 7, 7, 7, 7, 7, 7);
        Sentences.dueEach(x, "says(?)", BAD, -1, 7, 20, LOW, HIGH);
    }

    private static void saysNoneOfWhoIsOut() {
        BullStreet x = Sentences.laws(after("person(1, 9, 1)"), "all run;");
        due(x, "says(0)", 0);
        x.run(1);
        due(x, "says(0)", GONE);
        x.moves(0, 9, 2);
        due(x, "says(0)", 0);
    }

    private static void factRefuses() {
        BullStreet x = after("person(1, 9, 1)", "person(2, 0, 1)", "run(1)");
        for (int what = 0; what < 6; what++) {
            due(x, "fact(0, " + what + ")", NONE);
            Sentences.dueEach(x, "fact(?, " + what + ")", BAD, -1, 2, 20, LOW, HIGH);
        }
        Sentences.dueEach(x, "fact(0, ?)", BAD, -1, 6, LOW, HIGH);
        Sentences.dueEach(x, "fact(1, ?)", BAD, -1, 6, LOW, HIGH);
        dueAll(x, "fact(1, ?)", 99, 1, 0, 0, 1, 0);
    }

    private static void tapeSentences() {
        Sentences.sentence("THE TAPE takes bytes, 200 at most", LawSentencesTest::tapeTakesTwoHundred);
        Sentences.sentence("read() uses it up.", LawSentencesTest::readUsesTheTapeUp);
        Sentences.sentence("n bytes (1 to 8) come to THE TAPE", LawSentencesTest::feedTakesOneToEight);
        Sentences.sentence("the lowest of eight first: how many it has.", LawSentencesTest::theLowestFirst);
        Sentences.sentence("BAD; FULL: more than 200.", LawSentencesTest::feedBadAheadOfFull);
    }

    private static void textSentences() {
        Sentences.sentence("8 CLAUSES at most. [..] the first NAME of the ninth CLAUSE, too", LawSentencesTest::clausesAreEight);
        Sentences.sentence("TEXT: { WHO ACT ; | WHO ACT if COND ; }", LawSentencesTest::clausesWithAndWithoutCond);
        Sentences.sentence("WHO: all | running | standing | fallen | touching | new | heaped | leaving. ACT: run | stand | leave | down.",
            LawSentencesTest::everyWhoAndAct);
        Sentences.sentence("VALUE: N | near | crowd | ahead | place | tick | lone SIGN: < | = | >", LawSentencesTest::everySignAndValue);
        Sentences.sentence("N are NUMBERS 0 to 9999. [..] NUMBERS rows of digits (1 to 4) [..] (a NUMBER of more digits", LawSentencesTest::numbersAreOfOneToFourDigits);
        Sentences.sentence("NAMES are rows of letters a to z", LawSentencesTest::namesAreLettersAToZ);
        Sentences.sentence("both as long as they go; blanks (32) part them", LawSentencesTest::namesAndNumbersPartThemselves);
        Sentences.sentence("blanks (32) part them, and stand elsewhere as one likes.", LawSentencesTest::blanksStandElsewhere);
        Sentences.sentence("At most 3 \"(\" are open within one another. [..] the fourth \"(\"", LawSentencesTest::threeAreOpen);
        Sentences.sentence("\"(\" COND \")\"", LawSentencesTest::bracketsMatch);
        Sentences.sentence("FAULT: the place (from 0) of the first byte of the first NAME, NUMBER or other byte that can't stand there", LawSentencesTest::faultIsTheFirst);
        Sentences.sentence("or the end (how many bytes there are), if more must come.", LawSentencesTest::faultIsTheEnd);
        Sentences.sentence("THE TAPE tells LAWS (in place of all): how many CLAUSES; -100 less its FAULT.", LawSentencesTest::readTellsLaws);
        Sentences.sentence("COND: ALL { or ALL } ALL: ONE { and ONE }", LawSentencesTest::andBindsCloser);
        Sentences.sentence("ONE: { not } (", LawSentencesTest::notsAsOneLikes);
        Sentences.sentence("VALUE SIGN VALUE", LawSentencesTest::signsCompare);
        Sentences.sentence("{ or ALL } [..] { and ONE }", LawSentencesTest::longCondsHold);
    }

    private static void factSentences() {
        Sentences.sentence("near: NEAR", LawSentencesTest::nearIsNear);
        Sentences.sentence("crowd: CROWD of his CELL (he, too)", LawSentencesTest::crowdIsHeToo);
        Sentences.sentence("ahead: CROWD of the next CELL (99, if there is none)", LawSentencesTest::aheadIsTheNextCell);
        Sentences.sentence("place: his CELL", LawSentencesTest::placeIsHisCell);
        Sentences.sentence("tick: TICK", LawSentencesTest::tickIsTick);
        Sentences.sentence("lone: how many BEASTS that aren't OUT are ALONE.", LawSentencesTest::loneIsHowManyAreAlone);
        Sentences.sentence("FACTS of a PERSON, as all is when it is his turn", LawSentencesTest::asAllIsWhenItIsHisTurn);
        Sentences.sentence("Which CLAUSE a PERSON would go by now [..] BAD.", LawSentencesTest::saysWhichClause);
        Sentences.sentence("(-9: none, or he is OUT)", LawSentencesTest::saysNoneOfWhoIsOut);
        Sentences.sentence("A FACT of a PERSON: what = 0 near, 1 crowd, 2 ahead, 3 place, 4 tick, 5 lone. BAD; NONE: he is OUT.", LawSentencesTest::factRefuses);
    }

    public static void main(String[] args) {
        tapeSentences();
        textSentences();
        factSentences();
        Sentences.end();
    }
}
