/** Each promise by hand: ordinary calls, the edges that the document names, and wrong calls. */
public final class PromisesTest {
    private static final int BAD = -1, FULL = -2, NONE = -3, GONE = -9;
    private static final int LOW = Integer.MIN_VALUE, HIGH = Integer.MAX_VALUE;
    private static final int RUNNING = 1, STANDING = 2, FALLEN = 3, TOUCHING = 4, NEW = 5, HEAPED = 6, LEAVING = 7;
    private static int asked = 0, wrong = 0, promise = 0;

    private static void due(String call, int got, int want) {
        asked++;
        if (got == want) return;
        wrong++;
        System.out.println("promise " + promise + ": " + call + " answered " + got + ", due is " + want);
    }

    private static void feed(BullStreet x, String text) {
        for (int i = 0; i < text.length(); i += 8) {
            long eight = 0;
            int n = Math.min(8, text.length() - i);
            for (int k = n - 1; k >= 0; k--) eight = eight << 8 | text.charAt(i + k) & 255;
            x.feed(eight, n);
        }
    }

    private static int read(BullStreet x, String text) {
        feed(x, text);
        return x.read();
    }

    /** A seed after which the next stones of a slip of 4 do, or do not, make a beast slip. */
    private static int seedThat(boolean slips) {
        for (int v = 1;; v++) {
            int z = v * 1103515245 + 12345;
            if ((z >>> 16) % 8 < 4 == slips) return v;
        }
    }

    /** A beast comes to be ALONE in cell c (above 0), one tenth later; the stones there do not slip any more. */
    private static int lone(BullStreet x, int c, int pace) {
        int b = x.beast(c - 1, pace);
        x.cell(c, 1, 4);
        x.seed(seedThat(true));
        x.run(1);
        x.cell(c, 1, 0);
        return b;
    }

    private static void newObject() {
        BullStreet x = new BullStreet();
        int[] many = {10, 0, 0, 0, 0, 0, 0};
        for (int what = 0; what < 7; what++) due("many(" + what + ")", x.many(what), many[what]);
        int[] cell = {3, 0, 0, 0, 0, 0};
        for (int c = 0; c < 10; c++) for (int what = 0; what < 6; what++) due("cellOf(" + c + ", " + what + ")", x.cellOf(c, what), cell[what]);
        for (int what = 0; what < 4; what++) due("morning(" + what + ")", x.morning(what), 0);
        due("again() of a new one", x.again(), NONE);
        due("SIGHT at first", x.rule(0, 3), 3);
        due("RISE at first", x.rule(1, 2), 2);
        due("HEAP at first", x.rule(2, 3), 3);
        due("z at first", x.seed(1), 1);
        for (int i = 0; i < 4; i++) {
            due("item of a missing sheet", x.item(i, 0, 0), -11);
            due("taken from an empty shelf", x.taken(i, 0), -11);
        }
    }

    private static void street() {
        BullStreet x = new BullStreet();
        for (int n : new int[] {1, 31, 0, -1, LOW, HIGH}) due("street(" + n + ")", x.street(n), BAD);
        due("many(0) after refusals", x.many(0), 10);
        due("street(2)", x.street(2), 2);
        due("cellOf(2, 0)", x.cellOf(2, 0), BAD);
        due("street(30)", x.street(30), 30);
        due("cellOf(29, 0)", x.cellOf(29, 0), 3);
        x.cell(4, 0, 9);
        x.cell(4, 1, 2);
        x.cell(4, 2, 1);
        x.rule(0, 5);
        x.run(2);
        for (int c = 3; c <= 5; c++) {
            x.person(FALLEN, c, 1);
            x.beast(c, 1);
        }
        due("street(31)", x.street(31), BAD);
        due("WIDTH after a refusal", x.cellOf(4, 0), 9);
        due("street(5)", x.street(5), 5);
        due("WIDTH as at first", x.cellOf(4, 0), 3);
        due("SLIP as at first", x.cellOf(4, 1), 0);
        due("DOOR as at first", x.cellOf(4, 2), 0);
        due("one before the end stays", x.personOf(1, 1), 4);
        due("one behind the end is OUT", x.personOf(2, 1), GONE);
        due("a beast before the end stays", x.beastOf(1, 0), 4);
        due("a beast behind the end is OUT", x.beastOf(2, 0), GONE);
        x.street(30);
        due("OUT stays OUT", x.personOf(2, 1), GONE);
        due("OUT stays OUT, a beast", x.beastOf(2, 0), GONE);
        due("CROWD behind", x.cellOf(5, 3), 0);
        due("fallen ones behind", x.cellOf(5, 4), 0);
        due("TICK stays", x.morning(0), 2);
        due("SIGHT stays", x.rule(0, 3), 5);
    }

    private static void cell() {
        BullStreet x = new BullStreet();
        int[][] edges = {{1, 9, 3}, {0, 4, 0}, {0, 1, 0}};
        for (int what = 0; what < 3; what++) {
            int least = edges[what][0], most = edges[what][1];
            due("below", x.cell(9, what, least - 1), BAD);
            due("above", x.cell(9, what, most + 1), BAD);
            due("most, from the first", x.cell(9, what, most), edges[what][2]);
            due("least", x.cell(9, what, least), most);
            due("it stands", x.cellOf(9, what), least);
            due("another's doesn't", x.cellOf(8, what), edges[what][2]);
        }
        for (int c : new int[] {-1, 10, LOW, HIGH}) due("cell(" + c + ")", x.cell(c, 0, 1), BAD);
        for (int what : new int[] {-1, 3, LOW, HIGH}) due("cell(0, " + what + ")", x.cell(0, what, 1), BAD);
    }

    private static void cellOf() {
        BullStreet x = new BullStreet();
        for (int kind = 1; kind <= 7; kind++) x.person(kind, 4, 1);
        x.person(RUNNING, 5, 1);
        x.beast(4, 1);
        x.beast(4, 2);
        x.beast(3, 2);
        due("CROWD", x.cellOf(4, 3), 7);
        due("fallen ones, heaped too", x.cellOf(4, 4), 2);
        due("BEASTS", x.cellOf(4, 5), 2);
        due("CROWD of another", x.cellOf(5, 3), 1);
        for (int what : new int[] {-1, 6, LOW, HIGH}) due("cellOf(0, " + what + ")", x.cellOf(0, what), BAD);
        for (int c : new int[] {-1, 10, LOW, HIGH}) due("cellOf(" + c + ", 3)", x.cellOf(c, 3), BAD);
    }

    private static void rule() {
        BullStreet x = new BullStreet();
        int[][] edges = {{1, 9, 3}, {0, 9, 2}, {2, 9, 3}};
        for (int what = 0; what < 3; what++) {
            int least = edges[what][0], most = edges[what][1];
            due("below", x.rule(what, least - 1), BAD);
            due("above", x.rule(what, most + 1), BAD);
            due("least", x.rule(what, least), edges[what][2]);
            due("most", x.rule(what, most), least);
            due("most again", x.rule(what, most), most);
        }
        for (int what : new int[] {-1, 3, LOW, HIGH}) due("rule(" + what + ")", x.rule(what, 3), BAD);
    }

    private static void seed() {
        BullStreet x = new BullStreet();
        due("seed(LOW)", x.seed(LOW), 1);
        due("seed(-7)", x.seed(-7), LOW);
        x.cell(1, 1, 1);
        x.beast(0, 1);
        x.run(1);
        due("z goes on by the stones", x.seed(5), -7 * 1103515245 + 12345);
        x.run(9);
        due("z stays without stones", x.seed(5), 5);
    }

    private static void person() {
        BullStreet x = new BullStreet();
        for (int kind : new int[] {0, 8, -1, LOW, HIGH}) due("kind " + kind, x.person(kind, 0, 1), BAD);
        for (int c : new int[] {-1, 10, LOW, HIGH}) due("cell " + c, x.person(1, c, 1), BAD);
        for (int pace : new int[] {0, 4, LOW, HIGH}) due("pace " + pace, x.person(1, 0, pace), BAD);
        for (int i = 0; i < 20; i++) due("person " + i, x.person(1 + i % 7, 9, 1 + i % 3), i);
        due("the 21st", x.person(1, 0, 1), FULL);
        due("BAD ahead of FULL", x.person(8, 0, 1), BAD);
        due("many(1)", x.many(1), 20);
        due("no WIDTH for who comes", x.cellOf(9, 3), 20);
    }

    private static void personOf() {
        BullStreet x = new BullStreet();
        x.person(LEAVING, 5, 3);
        due("KIND", x.personOf(0, 0), LEAVING);
        due("CELL", x.personOf(0, 1), 5);
        due("PACE", x.personOf(0, 2), 3);
        due("HURTS", x.personOf(0, 3), 0);
        due("NEAR without one", x.personOf(0, 4), 99);
        x.beast(6, 1);
        due("NEAR, one ahead", x.personOf(0, 4), 99);
        x.beast(0, 1);
        due("NEAR, one in the first cell", x.personOf(0, 4), 5);
        x.beast(1, 1);
        due("NEAR, one behind", x.personOf(0, 4), 4);
        x.beast(3, 1);
        due("NEAR, a nearer one", x.personOf(0, 4), 2);
        x.beast(5, 1);
        due("NEAR, one in his cell", x.personOf(0, 4), 0);
        x.street(2);
        due("CELL OUT", x.personOf(0, 1), GONE);
        due("NEAR OUT", x.personOf(0, 4), GONE);
        due("KIND OUT", x.personOf(0, 0), LEAVING);
        due("PACE OUT", x.personOf(0, 2), 3);
        x.street(10);
        x.moves(0, 9, STANDING);
        due("NEAR, OUT ones don't count", x.personOf(0, 4), 8);
        for (int what : new int[] {-1, 5, LOW, HIGH}) due("what " + what, x.personOf(0, what), BAD);
        for (int p : new int[] {-1, 1, LOW, HIGH}) due("person " + p, x.personOf(p, 0), BAD);
    }

    private static void beast() {
        BullStreet x = new BullStreet();
        for (int c : new int[] {-1, 10, LOW, HIGH}) due("cell " + c, x.beast(c, 1), BAD);
        for (int pace : new int[] {0, 5, LOW, HIGH}) due("pace " + pace, x.beast(0, pace), BAD);
        for (int i = 0; i < 6; i++) due("beast " + i, x.beast(i, 1 + i % 4), i);
        due("the seventh", x.beast(0, 1), FULL);
        due("BAD ahead of FULL", x.beast(0, 5), BAD);
        due("many(2)", x.many(2), 6);
    }

    private static void beastOf() {
        BullStreet x = new BullStreet();
        x.beast(9, 4);
        due("CELL", x.beastOf(0, 0), 9);
        due("PACE", x.beastOf(0, 1), 4);
        due("ALONE", x.beastOf(0, 2), 0);
        x.run(1);
        due("OUT", x.beastOf(0, 0), GONE);
        int b = lone(x, 5, 3);
        due("ALONE after slipping", x.beastOf(b, 2), 1);
        due("it goes no further", x.beastOf(b, 0), 5);
        x.street(3);
        due("OUT, and ALONE still", x.beastOf(b, 0) * 10 + x.beastOf(b, 2), -89);
        for (int what : new int[] {-1, 3, LOW, HIGH}) due("what " + what, x.beastOf(0, what), BAD);
        for (int i : new int[] {-1, 2, LOW, HIGH}) due("beast " + i, x.beastOf(i, 0), BAD);
    }

    private static void moves() {
        BullStreet x = new BullStreet();
        x.person(RUNNING, 9, 1);
        x.run(1);
        due("he ran out", x.personOf(0, 1), GONE);
        due("moves one who is OUT", x.moves(0, 4, HEAPED), RUNNING);
        due("CELL", x.personOf(0, 1), 4);
        due("KIND", x.personOf(0, 0), HEAPED);
        due("fallen ones there", x.cellOf(4, 4), 1);
        due("moves on", x.moves(0, 5, STANDING), HEAPED);
        due("fallen ones there no more", x.cellOf(4, 4) * 10 + x.cellOf(4, 3), 0);
        due("CROWD where he is", x.cellOf(5, 3), 1);
        x.beast(5, 1);
        for (int kind : new int[] {0, 8, LOW, HIGH}) due("kind " + kind, x.moves(0, 4, kind), BAD);
        for (int c : new int[] {-1, 10, LOW, HIGH}) due("cell " + c, x.moves(0, c, 1), BAD);
        for (int p : new int[] {-1, 1, LOW, HIGH}) due("person " + p, x.moves(p, 0, 1), BAD);
        due("refused: he stays", x.personOf(0, 1), 5);
    }

    private static void feedIt() {
        BullStreet x = new BullStreet();
        for (int n : new int[] {0, 9, -1, LOW, HIGH}) due("n " + n, x.feed(0, n), BAD);
        due("the lowest first", x.feed(0x20206c6c61L, 5), 5);
        due("only n of them", x.feed(0x7878783b6e7572L, 4), 9);
        due("read()", x.read(), 1);
        for (int i = 1; i <= 24; i++) due("eight more", x.feed(0x2020202020202020L, 8), 8 * i);
        due("seven more", x.feed(0x2020202020202020L, 7), 199);
        due("two too many", x.feed(0x2020202020202020L, 2), FULL);
        due("BAD ahead of FULL", x.feed(0, 9), BAD);
        due("nothing came", x.many(5), 199);
        due("the last one", x.feed(0x20, 1), 200);
        due("one too many", x.feed(0x20, 1), FULL);
        due("blanks are no laws", x.read(), 0);
        due("used up", x.many(5), 0);
    }

    private static void fault(BullStreet x, String text, int place) {
        due("read() of '" + text + "'", read(x, text), -100 - place);
        due("used up", x.many(5), 0);
    }

    private static void readIt() {
        BullStreet x = new BullStreet();
        due("none", x.read(), 0);
        String[] right = {"all run;", "  all  run  ;  ", "all run;running stand;standing leave;fallen down;touching run;new run;heaped run;leaving run;",
            "all run if 0<9999;", "all run if near=0and crowd>1or 3<4;", "all run if not not not near = 1;",
            "all run if (((near<1)));", "all run if not(not(not(1=1 or 2=2)and 3=3)or 4=4);", "all down if ahead<place and tick>lone;",
            "all run if 0000=1;", "all run if ((1=1)and(2=2))or((3=3));"};
        int[] clauses = {1, 1, 8, 1, 1, 1, 1, 1, 1, 1, 1};
        for (int i = 0; i < right.length; i++) due("read() of '" + right[i] + "'", read(x, right[i]), clauses[i]);
        read(x, "all run;all run;");
        fault(x, "person run;", 0);
        fault(x, " alls run;", 1);
        fault(x, "allz run;", 0);
        fault(x, "all{ run;", 3);
        fault(x, "`all run;", 0);
        fault(x, "all run if 1<9:;", 14);
        fault(x, "all run if 1<0/;", 14);
        fault(x, "all run if all<1;", 11);
        fault(x, "all run if 1<all;", 13);
        fault(x, "run run;", 0);
        fault(x, "all near;", 4);
        fault(x, ";".repeat(200), 0);
        fault(x, "all run;" + " ".repeat(191) + "a", 199);
        fault(x, "all run;" + " ".repeat(189) + "all", 200);
        fault(x, "al run;", 0);
        fault(x, "allrun;", 0);
        fault(x, "All run;", 0);
        fault(x, "all ran;", 4);
        fault(x, "all if;", 4);
        fault(x, "all;", 3);
        fault(x, ";", 0);
        fault(x, "all run;;", 8);
        fault(x, "all run", 7);
        fault(x, "all run  ", 9);
        fault(x, "all", 3);
        fault(x, "all run when 1=1;", 8);
        fault(x, "all run if ;", 11);
        fault(x, "all run if", 10);
        fault(x, "all run if near;", 15);
        fault(x, "all run if near<;", 16);
        fault(x, "all run if near<1", 17);
        fault(x, "all run if near<1 2;", 18);
        fault(x, "all run if near<=1;", 16);
        fault(x, "all run if near!1;", 15);
        fault(x, "all run if near?1;", 15);
        fault(x, "all run if 12345<1;", 11);
        fault(x, "all run if 1<00001;", 13);
        fault(x, "all run if 1<2 and;", 18);
        fault(x, "all run if 1<2 or or 1<2;", 18);
        fault(x, "all run if 1<2 not 1<2;", 15);
        fault(x, "all run if (1<2;", 15);
        fault(x, "all run if 1<2);", 14);
        fault(x, "all run if ();", 12);
        fault(x, "all run if (near)<2;", 16);
        fault(x, "all run if ((((1<2))));", 14);
        fault(x, "all run if (((1<2))) and ((( (1<2))));", 29);
        fault(x, "all run if running<2;", 11);
        fault(x, "all run;all run;all run;all run;all run;all run;all run;all run; all run;", 65);
        fault(x, "all run;all run;all run;all run;all run;all run;all run;all run; #", 65);
        fault(x, "all run\t;", 7);
        fault(x, "all run;\u00e1", 8);
        fault(x, "all run;\u0000", 8);
        due("refused: the laws stay", x.many(3), 2);
        due("an empty tape tells none", x.read(), 0);
        due("in place of all", x.many(3), 0);
    }

    private static void holds(BullStreet x, String cond, boolean want) {
        due("read() of '" + cond + "'", read(x, "all run if " + cond + ";"), 1);
        due("says by '" + cond + "'", x.says(0), want ? 0 : GONE);
    }

    private static void says() {
        BullStreet x = new BullStreet();
        for (int kind = 1; kind <= 7; kind++) x.person(kind, kind, 1);
        for (int p = 0; p < 7; p++) due("without laws", x.says(p), GONE);
        read(x, "touching run;new run;heaped run;leaving run;running run;standing run;fallen run;");
        int[] first = {4, 5, 6, 0, 1, 2, 3};
        for (int p = 0; p < 7; p++) due("the first of his kind, person " + p, x.says(p), first[p]);
        read(x, "running run;standing run;fallen run;touching run;new run;heaped run;leaving run;");
        int[] above = {0, 1, 2, 0, 0, 2, 1};
        for (int p = 0; p < 7; p++) due("one of a kind above, person " + p, x.says(p), above[p]);
        read(x, "heaped run;all run if place>2;");
        int[] all = {GONE, GONE, 1, 1, 1, 0, 1};
        for (int p = 0; p < 7; p++) due("all, person " + p, x.says(p), all[p]);
        holds(x, "1=1 or 1=2 and 1=3", true);
        holds(x, "(1=1 or 1=2) and 1=3", false);
        holds(x, "1=2 and 1=3 or 1=1", true);
        holds(x, "not 1=1 or 1=1", true);
        holds(x, "not (1=1 or 1=1)", false);
        holds(x, "not not 1=1", true);
        holds(x, "1=2 or 1=3 or 1=4", false);
        holds(x, "1=1 and 2=2 and 3=4", false);
        holds(x, "1<1", false);
        holds(x, "1<2", true);
        holds(x, "1>1", false);
        holds(x, "2>1", true);
        holds(x, "near=99 and crowd=1 and ahead=1 and place=1 and tick=0 and lone=0", true);
        holds(x, "9999>near", true);
        holds(x, "10=0010", true);
        holds(x, "1=1 and (1=2 or 2=2 and (3=3 and not (4=5 or 5=6)))", true);
        x.run(10);
        due("he is OUT", x.says(0), GONE);
        for (int p : new int[] {-1, 7, LOW, HIGH}) due("person " + p, x.says(p), BAD);
    }

    private static void fact() {
        BullStreet x = new BullStreet();
        x.person(STANDING, 9, 1);
        x.person(STANDING, 8, 1);
        x.person(STANDING, 8, 1);
        int b = lone(x, 5, 1);
        due("it is alone", x.beastOf(b, 2), 1);
        int[][] want = {{4, 1, 99, 9, 1, 1}, {3, 2, 1, 8, 1, 1}};
        for (int p = 0; p < 2; p++) for (int what = 0; what < 6; what++) due("fact(" + p + ", " + what + ")", x.fact(p, what), want[p][what]);
        x.beast(0, 1);
        due("lone counts who is ALONE", x.fact(0, 5), 1);
        x.street(9);
        due("OUT", x.fact(0, 0), NONE);
        due("ahead of who is in the last cell", x.fact(1, 2), 99);
        x.street(4);
        x.moves(0, 1, STANDING);
        due("lone counts nobody who is OUT", x.fact(0, 5), 0);
        due("BAD ahead of NONE", x.fact(1, 6), BAD);
        for (int what : new int[] {-1, 6, LOW, HIGH}) due("what " + what, x.fact(0, what), BAD);
        for (int p : new int[] {-1, 3, LOW, HIGH}) due("person " + p, x.fact(p, 0), BAD);
    }

    private static void runBeasts() {
        BullStreet x = new BullStreet();
        x.beast(0, 3);
        x.beast(7, 2);
        x.beast(8, 2);
        x.run(1);
        due("by pace", x.beastOf(0, 0), 3);
        due("to the last cell", x.beastOf(1, 0), 9);
        due("behind the last cell", x.beastOf(2, 0), GONE);
        x.cell(5, 1, 4);
        x.seed(seedThat(false));
        x.run(1);
        due("it did not slip", x.beastOf(0, 0) * 10 + x.beastOf(0, 2), 60);
        // SIGHT 3 from cell 5: who is in 2 and who is in 8 are as near
        BullStreet y = new BullStreet();
        int b = lone(y, 5, 4);
        y.person(STANDING, 2, 1);
        y.run(1);
        due("back towards who is near", y.beastOf(b, 0), 4);
        BullStreet v = new BullStreet();
        b = lone(v, 5, 4);
        v.person(STANDING, 1, 1);
        v.person(STANDING, 9, 1);
        v.run(1);
        due("nobody in sight", v.beastOf(b, 0), 5);
        v.rule(0, 4);
        v.run(1);
        due("of two as near the one ahead", v.beastOf(b, 0), 6);
        v.run(9);
        due("it stays in his cell", v.beastOf(b, 0), 9);
        due("and is not OUT", v.cellOf(9, 5), 1);
        v.moves(0, 8, STANDING);
        v.run(3);
        due("who is in its cell is nearest", v.beastOf(b, 0), 9);
        BullStreet w = new BullStreet();
        b = lone(w, 5, 4);
        w.person(STANDING, 3, 1);
        w.person(STANDING, 8, 1);
        w.cell(4, 1, 4);
        int z = w.seed(77);
        w.run(1);
        due("towards the nearer one", w.beastOf(b, 0), 4);
        due("who is ALONE slips no more", w.seed(z), 77);
    }

    private static void runPeople() {
        BullStreet x = new BullStreet();
        x.street(30);
        for (int kind = 1; kind <= 7; kind++) for (int pace = 1; pace <= 3; pace++) x.cell(kind, 0, 9);
        int[] steps = {1, 2, 3, 0, 0, 0, 0, 0, 0, 2, 3, 4, 1, 1, 2, 0, 0, 0, 0, 0, 0};
        for (int i = 0; i < 20; i++) x.person(1 + i / 3, 10, 1 + i % 3);
        for (int c = 11; c < 20; c++) x.cell(c, 0, 9);
        x.rule(2, 9);
        x.run(1);
        for (int i = 0; i < 20; i++) due("steps of person " + i, x.personOf(i, 1), 10 + steps[i]);
        BullStreet y = new BullStreet();
        y.cell(3, 0, 2);
        y.person(RUNNING, 2, 3);
        y.person(RUNNING, 1, 2);
        y.person(STANDING, 3, 1);
        y.person(STANDING, 3, 1);
        y.run(1);
        due("the next cell is full", y.personOf(0, 1), 2);
        due("up to a full cell", y.personOf(1, 1), 2);
        y.moves(2, 9, STANDING);
        y.run(1);
        due("there is room for the first", y.personOf(0, 1), 5);
        due("and, he gone on, for the second", y.personOf(1, 1), 4);
        BullStreet v = new BullStreet();
        for (int i = 0; i < 3; i++) v.person(FALLEN, 4, 1);
        v.cell(4, 0, 9);
        v.person(RUNNING, 2, 3);
        v.run(1);
        due("fallen ones bar the way", v.personOf(3, 1), 3);
        v.rule(2, 4);
        v.run(1);
        due("fewer than HEAP don't", v.personOf(3, 1), 6);
        v.moves(3, 9, RUNNING);
        v.run(1);
        due("behind the last cell", v.personOf(3, 1), GONE);
        due("PEOPLE OUT", v.morning(2), 1);
    }

    private static void runActs() {
        BullStreet x = new BullStreet();
        x.beast(4, 1);
        x.person(FALLEN, 6, 1);
        x.person(FALLEN, 7, 1);
        x.person(FALLEN, 8, 1);
        read(x, "all run;");
        x.run(1);
        due("NEAR 1, RISE 2", x.personOf(0, 0), FALLEN);
        due("NEAR 2, RISE 2", x.personOf(1, 0), FALLEN);
        due("NEAR 3, RISE 2", x.personOf(2, 0), RUNNING);
        due("who rises goes no further", x.personOf(2, 1), 8);
        BullStreet y = new BullStreet();
        for (int i = 0; i < 3; i++) y.person(HEAPED, 2, 1);
        read(y, "all run;");
        y.run(1);
        for (int i = 0; i < 3; i++) due("a heap holds", y.personOf(i, 0), HEAPED);
        y.rule(2, 4);
        y.run(1);
        for (int i = 0; i < 3; i++) due("fewer than HEAP rise", y.personOf(i, 0), RUNNING);
        BullStreet v = new BullStreet();
        v.cell(2, 2, 1);
        for (int kind = 1; kind <= 7; kind++) v.person(kind, 2, 1);
        v.person(STANDING, 5, 2);
        v.person(FALLEN, 7, 2);
        read(v, "all leave;");
        v.run(1);
        for (int p = 0; p < 7; p++) due("by the door, person " + p, v.personOf(p, 1), GONE);
        due("no door: as run", v.personOf(7, 1), 7);
        due("he keeps his kind", v.personOf(7, 0), STANDING);
        due("no door: he rises", v.personOf(8, 0), RUNNING);
        BullStreet w = new BullStreet();
        for (int kind = 1; kind <= 7; kind++) w.person(kind, kind, 1);
        read(w, "all down;");
        w.run(1);
        for (int p = 0; p < 7; p++) due("down, person " + p, w.personOf(p, 0), p + 1 == HEAPED ? HEAPED : FALLEN);
        read(w, "all stand;");
        w.moves(0, 0, RUNNING);
        w.run(1);
        due("stand", w.personOf(0, 1), 0);
        read(w, "running stand if tick>3;running down if tick=3;");
        w.run(1);
        due("TICK in the tenth", w.personOf(0, 0), FALLEN);
    }

    private static void runHarm() {
        BullStreet x = new BullStreet();
        for (int kind = 1; kind <= 7; kind++) x.person(kind, 5, 1);
        x.beast(4, 1);
        x.rule(2, 9);
        read(x, "all stand;");
        due("run(1)", x.run(1), 6);
        int[] hurts = {1, 0, 0, 2, 2, 1, 0};
        int[] kinds = {FALLEN, STANDING, FALLEN, FALLEN, FALLEN, HEAPED, LEAVING};
        for (int p = 0; p < 7; p++) {
            due("HURTS of person " + p, x.personOf(p, 3), hurts[p]);
            due("KIND of person " + p, x.personOf(p, 0), kinds[p]);
        }
        BullStreet y = new BullStreet();
        lone(y, 5, 1);
        for (int kind = 1; kind <= 7; kind++) y.person(kind, 5, 1);
        y.beast(4, 1);
        y.rule(2, 9);
        read(y, "all stand;");
        due("run(1) with one ALONE", y.run(1), 13);
        for (int p = 0; p < 7; p++) {
            due("HURTS of person " + p, y.personOf(p, 3), hurts[p] + 1);
            due("KIND of person " + p, y.personOf(p, 0), kinds[p]);
        }
        BullStreet v = new BullStreet();
        for (int i = 0; i < 3; i++) v.person(i == 0 ? RUNNING : FALLEN, 5, 1);
        v.person(HEAPED, 6, 1);
        v.beast(4, 1);
        read(v, "all stand;");
        due("one falls on two", v.run(1), 1);
        for (int i = 0; i < 3; i++) due("a heap", v.personOf(i, 0), HEAPED);
        due("who was heaped stays so", v.personOf(3, 0), HEAPED);
        due("CELLS with one heaped", v.morning(3), 2);
        due("run(0)", v.run(0), 0);
        due("TICK", v.morning(0), 1);
        due("run(60)", v.run(60), 1);
        due("TICK by 60", v.morning(0), 61);
        for (int n : new int[] {-1, 61, LOW, HIGH}) due("run(" + n + ")", v.run(n), BAD);
        due("TICK stays", v.morning(0), 61);
    }

    private static void morning() {
        BullStreet x = new BullStreet();
        x.person(TOUCHING, 5, 1);
        x.person(HEAPED, 2, 1);
        x.person(HEAPED, 2, 1);
        x.person(HEAPED, 7, 1);
        x.beast(4, 3);
        read(x, "all stand;");
        x.run(1);
        due("no HURTS: it ran through to 7", x.morning(1), 1);
        x.street(3);
        due("OUT", x.morning(2), 2);
        due("HURTS of who is OUT count", x.morning(1), 1);
        due("heaped in a CELL", x.morning(3), 1);
        due("TICK", x.morning(0), 1);
        for (int what : new int[] {-1, 4, LOW, HIGH}) due("what " + what, x.morning(what), BAD);
    }

    private static void odds() {
        BullStreet x = new BullStreet();
        x.cell(1, 1, 3);
        x.beast(0, 2);
        x.person(STANDING, 1, 1);
        x.person(STANDING, 2, 1);
        x.seed(99);
        // standing ones are hurt by who is ALONE only: it slips in cell 1 as the 16 z tell
        int hits = 0;
        for (int z = 1; z <= 16; z++) if ((z * 1103515245 + 12345 >>> 16) % 8 < 3) hits++;
        int above = hits, below = 16;
        while (above % 2 == 0 && below > 1) {
            above /= 2;
            below /= 2;
        }
        due("above", x.odds(0, 1, 0), above);
        due("below", x.odds(0, 1, 1), below);
        due("never, above", x.odds(1, 1, 0), 0);
        due("never, below", x.odds(1, 1, 1), 1);
        x.person(HEAPED, 3, 1);
        due("n 0", x.odds(2, 0, 0) * 10 + x.odds(2, 0, 1), 1);
        BullStreet y = new BullStreet();
        y.beast(0, 1);
        y.person(HEAPED, 1, 1);
        due("always", y.odds(0, 1, 0) * 10 + y.odds(0, 1, 1), 11);
        due("nothing changes", x.seed(99) * 100 + x.morning(0) * 10 + x.morning(1), 9900);
        for (int p : new int[] {-1, 3, LOW, HIGH}) due("person " + p, x.odds(p, 1, 0), BAD);
        for (int n : new int[] {-1, 61, LOW, HIGH}) due("n " + n, x.odds(0, n, 0), BAD);
        for (int part : new int[] {-1, 2, LOW, HIGH}) due("part " + part, x.odds(0, 1, part), BAD);
        due("n 60", x.odds(1, 60, 1) > 0 ? 1 : 0, 1);
    }

    private static void begin() {
        BullStreet x = new BullStreet();
        x.person(HEAPED, 9, 1);
        x.beast(0, 1);
        x.beast(1, 1);
        read(x, "all stand;");
        due("1 and 2 are run over", x.begin(0, 1), 0);
        x.beast(9, 1);
        due("0 is behind them", x.begin(0, 9), 0);
        BullStreet y = new BullStreet();
        y.person(HEAPED, 0, 1);
        int b = lone(y, 2, 1);
        due("it is alone", y.beastOf(b, 2), 1);
        // SIGHT 3 from cell 2 on: 0 to 5 are in its reach, 6 is the first that isn't
        due("out of sight", y.begin(0, 9), 6);
        due("two tenths", y.begin(0, 2), 5);
        due("n 0", y.begin(0, 0), 0);
        y.moves(0, 9, RUNNING);
        y.run(1);
        due("he is OUT", y.personOf(0, 1), GONE);
        // from 0 he would run into it as it comes back to 1; from 1 he runs past it
        due("who is OUT would be in a cell", y.begin(0, 1), 1);
        y.moves(0, 3, HEAPED);
        y.run(1);
        due("BEGIN is told by more HURTS", y.begin(0, 1), 0);
        due("nothing changes", y.personOf(0, 1), 3);
        BullStreet v = new BullStreet();
        v.street(2);
        lone(v, 1, 1);
        v.person(HEAPED, 1, 1);
        due("no cell is safe: of several the first", v.begin(0, 5), 0);
        BullStreet w = new BullStreet();
        w.street(30);
        for (int c = 1; c < 30; c += 5) lone(w, c, 1);
        w.person(HEAPED, 1, 1);
        due("the last is farthest, from 26", w.begin(0, 60), 29);
        due("3 is the first as far as two tenths", w.begin(0, 1), 3);
        for (int p : new int[] {-1, 1, LOW, HIGH}) due("person " + p, y.begin(p, 1), BAD);
        for (int n : new int[] {-1, 61, LOW, HIGH}) due("n " + n, y.begin(0, n), BAD);
    }

    private static void door() {
        BullStreet x = new BullStreet();
        x.person(HEAPED, 3, 1);
        x.person(HEAPED, 5, 1);
        x.person(HEAPED, 5, 1);
        x.beast(0, 1);
        read(x, "all leave;");
        x.rule(1, 9);
        due("HARM now", x.harm(9), 3);
        due("the door of two", x.door(9), 5);
        due("of several the first", x.door(3), 3);
        due("none is less", x.door(2), NONE);
        due("n 0", x.door(0), NONE);
        due("nothing changes", x.cellOf(5, 2), 0);
        x.cell(5, 2, 1);
        due("a door that is there counts nothing", x.door(9), 3);
        x.cell(3, 2, 1);
        due("all are wanted no more", x.door(9), NONE);
        BullStreet y = new BullStreet();
        y.street(30);
        y.cell(0, 2, 1);
        y.person(HEAPED, 29, 1);
        lone(y, 29, 1);
        read(y, "all leave;");
        due("the last cell", y.door(2), 29);
        y.cell(0, 2, 0);
        y.person(HEAPED, 0, 1);
        y.person(HEAPED, 0, 1);
        y.beast(0, 4);
        read(y, "heaped leave if place=0;");
        due("no beast comes to the first cell", y.door(2), NONE);
        BullStreet v = new BullStreet();
        v.person(STANDING, 0, 1);
        lone(v, 1, 1);
        read(v, "all leave if crowd=1;all stand;");
        v.rule(1, 9);
        v.moves(0, 0, FALLEN);
        due("the first cell", v.door(5), 0);
        for (int n : new int[] {-1, 61, LOW, HIGH}) due("n " + n, x.door(n), BAD);
    }

    private static void limit() {
        BullStreet x = new BullStreet();
        due("nobody", x.limit(5), 0);
        for (int i = 0; i < 3; i++) x.person(FALLEN, 5, 1);
        x.person(STANDING, 1, 1);
        due("n 0", x.limit(0), 4);
        due("three make a heap", x.limit(1), 2);
        x.rule(2, 4);
        due("not of four", x.limit(1), 4);
        BullStreet y = new BullStreet();
        y.person(HEAPED, 5, 1);
        y.person(STANDING, 5, 1);
        due("the first is heaped", y.limit(3), 0);
        BullStreet v = new BullStreet();
        v.person(STANDING, 5, 1);
        v.person(HEAPED, 5, 1);
        due("the first alone", v.limit(3), 1);
        read(y, "heaped run if crowd>1;");
        due("with the second he isn't: the greatest m", y.limit(3), 2);
        y.cell(5, 2, 1);
        read(y, "heaped leave;");
        due("heaped, but OUT", y.limit(1), 2);
        due("heaped, not yet OUT", y.limit(0), 0);
        due("nothing changes", y.personOf(1, 1), 5);
        for (int n : new int[] {-1, 61, LOW, HIGH}) due("n " + n, y.limit(n), BAD);
    }

    private static void law() {
        BullStreet x = new BullStreet();
        due("no clause", x.law(0, 1), BAD);
        x.person(RUNNING, 5, 1);
        x.person(TOUCHING, 5, 2);
        x.beast(4, 1);
        read(x, "running run if tick>40;touching run;running stand;");
        due("HARM", x.harm(1), 1);
        due("a clause that is not gone by", x.law(0, 1), 1000);
        due("touching stand then", x.law(1, 1), 1002);
        due("running run then", x.law(2, 1), 999);
        due("n 0", x.law(1, 0), 1000);
        due("nothing changes", x.many(3) * 10 + x.says(1), 31);
        for (int k : new int[] {-1, 3, LOW, HIGH}) due("clause " + k, x.law(k, 1), BAD);
        for (int n : new int[] {-1, 61, LOW, HIGH}) due("n " + n, x.law(0, n), BAD);
    }

    private static void together() {
        BullStreet x = new BullStreet();
        due("no beast", x.together(60), 60);
        x.beast(0, 1);
        x.cell(4, 1, 4);
        x.seed(seedThat(true));
        due("till it slips", x.together(60), 3);
        due("sooner ended", x.together(2), 2);
        due("n 0", x.together(0), 0);
        x.run(4);
        due("ALONE now", x.together(5), 0);
        x.street(3);
        due("ALONE, but OUT", x.together(5), 5);
        due("nothing changes", x.morning(0), 4);
        for (int n : new int[] {-1, 61, LOW, HIGH}) due("n " + n, x.together(n), BAD);
    }

    private static void harm() {
        BullStreet x = new BullStreet();
        x.person(HEAPED, 3, 1);
        x.person(STANDING, 3, 1);
        x.person(RUNNING, 5, 1);
        x.beast(0, 1);
        read(x, "all stand;");
        x.run(3);
        due("HURTS ahead of it count nothing", x.harm(0), 0);
        due("one more", x.harm(2), 1);
        due("n 60", x.harm(60), 1);
        due("nothing changes", x.morning(0) * 10 + x.beastOf(0, 0), 33);
        for (int n : new int[] {-1, 61, LOW, HIGH}) due("n " + n, x.harm(n), BAD);
    }

    /** One heaped in 3, two in 4, a beast of pace 1 in 0: harm in the third and the fourth tenth. */
    private static BullStreet heapedOnes() {
        BullStreet x = new BullStreet();
        x.person(HEAPED, 4, 1);
        x.person(HEAPED, 3, 1);
        x.person(HEAPED, 4, 1);
        x.beast(0, 1);
        return x;
    }

    private static void prove() {
        BullStreet x = heapedOnes();
        due("prove(2)", x.prove(2), 0);
        due("prove(3)", x.prove(3), 1);
        due("prove(60)", x.prove(60), 3);
        due("many(4)", x.many(4), 3);
        due("nothing else changes", x.morning(0), 0);
        for (int n : new int[] {-1, 61, LOW, HIGH}) due("n " + n, x.prove(n), BAD);
        due("refused: they stay", x.many(4), 3);
        due("n 0", x.prove(0), 0);
        BullStreet y = new BullStreet();
        lone(y, 5, 1);
        y.person(STANDING, 5, 1);
        due("23", y.prove(23), 23);
        due("24", y.prove(24), 24);
        due("the first 24", y.prove(25), 24);
        due("the last is the 24th", y.row(23, 0), 24);
    }

    private static void row() {
        BullStreet x = heapedOnes();
        due("none", x.row(0, 0), GONE);
        x.run(1);
        x.prove(60);
        int[][] want = {{2, 1, 3}, {3, 0, 4}, {3, 2, 4}};
        for (int i = 0; i < 3; i++) for (int what = 0; what < 3; what++) due("row(" + i + ", " + what + ")", x.row(i, what), want[i][what]);
        for (int i : new int[] {-1, 3, LOW, HIGH}) due("row " + i, x.row(i, 0), GONE);
        for (int what : new int[] {-1, 3, LOW, HIGH}) due("what " + what, x.row(0, what), GONE);
    }

    private static void alterRow() {
        BullStreet x = heapedOnes();
        due("none", x.alterRow(0, 0, 5), GONE);
        x.prove(60);
        due("TENTH", x.alterRow(0, 0, HIGH), 3);
        due("it stands", x.row(0, 0), HIGH);
        due("CELL", x.alterRow(2, 2, LOW), 4);
        due("it stands", x.row(2, 2), LOW);
        due("the others stay", x.row(1, 2), 4);
        for (int i : new int[] {-1, 3, LOW, HIGH}) due("row " + i, x.alterRow(i, 0, 7), GONE);
        for (int what : new int[] {-1, 3, LOW, HIGH}) due("what " + what, x.alterRow(0, what, 7), GONE);
    }

    private static void judge() {
        BullStreet x = heapedOnes();
        due("no rows", x.judge(), 0);
        x.prove(3);
        due("fewer rows than harms", x.judge(), 0);
        x.prove(60);
        due("all", x.judge(), 0);
        for (int i = 2; i >= 0; i--) {
            for (int what = 0; what < 3; what++) {
                int was = x.alterRow(i, what, 17);
                due("row " + i + " altered", x.judge(), i + 1);
                x.alterRow(i, what, was);
            }
        }
        due("mended", x.judge(), 0);
        x.alterRow(1, 1, 2);
        due("not the next one", x.judge(), 2);
        x.alterRow(1, 1, 0);
        x.run(1);
        due("from now on they come sooner", x.judge(), 1);
        x.run(9);
        due("no such harm comes", x.judge(), 1);
        due("nothing changes", x.many(4) * 100 + x.morning(0), 310);
    }

    private static void sheet() {
        BullStreet x = new BullStreet();
        for (int s : new int[] {-1, 4, LOW, HIGH}) due("sheet " + s, x.sheet(s, 0, 1), BAD);
        for (int sort : new int[] {-2, 5, LOW, HIGH}) due("sort " + sort, x.sheet(0, sort, -1), BAD);
        for (int n : new int[] {41, HIGH}) due("n " + n, x.sheet(0, 0, n), BAD);
        for (int n : new int[] {-1, LOW}) due("n " + n, x.sheet(0, 0, n), -14);
        due("refused: missing still", x.item(0, 0, 0), -11);
        for (int sort = 0; sort < 5; sort++) {
            due("40", x.sheet(3, sort, 40), 1);
            due("the last is 0", x.item(3, sort, 39), 0);
            due("behind it", x.item(3, sort, 40), -12);
            x.put(3, 39, 1);
        }
        due("anew", x.sheet(3, 4, 40) * 10 + x.item(3, 4, 39), 10);
        due("of none", x.sheet(3, 2, 0), 1);
        due("none is in it", x.item(3, 2, 0), -12);
        for (int n : new int[] {0, -1, 41, LOW, HIGH}) due("missing, n " + n, x.sheet(3, -1, n), 1);
        due("it is missing", x.item(3, 2, 0), -11);
        due("others are missing", x.item(2, 2, 0), -11);
    }

    private static void put() {
        BullStreet x = new BullStreet();
        for (int s : new int[] {-1, 4, LOW, HIGH}) due("sheet " + s, x.put(s, 0, 1), BAD);
        due("missing", x.put(0, 0, 1), -11);
        int[] values = {0, 1, -1, 127, 128, 255, 256, 32767, 32768, 65536, HIGH, LOW};
        for (int sort = 0; sort < 5; sort++) {
            x.sheet(1, sort, 3);
            for (int i : new int[] {-1, 3, LOW, HIGH}) due("item " + i, x.put(1, i, 1), -12);
            for (int v : values) {
                int want = sort == 0 ? (byte) v : sort == 1 ? (short) v : sort == 4 ? (v == 0 ? 0 : 1) : v;
                due("put", x.put(1, 2, v), 1);
                due("sort " + sort + ", " + v, x.item(1, sort, 2), want);
            }
            due("the others stay", x.item(1, sort, 1), 0);
        }
    }

    private static void item() {
        BullStreet x = new BullStreet();
        for (int s : new int[] {-1, 4, LOW, HIGH}) due("sheet " + s, x.item(s, 0, 0), BAD);
        for (int sort : new int[] {-1, 5, LOW, HIGH}) due("sort " + sort, x.item(0, sort, 0), BAD);
        due("missing", x.item(0, 3, 99), -11);
        for (int sort = 0; sort < 5; sort++) {
            x.sheet(0, sort, 2);
            x.put(0, 1, 1);
            for (int as = 0; as < 5; as++) {
                due("sort " + sort + " as " + as, x.item(0, as, 1), as == sort ? 1 : -13);
                due("-13 ahead of -12", x.item(0, as, 2), as == sort ? -12 : -13);
            }
            for (int i : new int[] {-1, 2, LOW, HIGH}) due("item " + i, x.item(0, sort, i), -12);
        }
        x.sheet(0, 3, 1);
        x.put(0, 0, -13);
        due("as low as these", x.item(0, 3, 0), -13);
    }

    private static void widths() {
        BullStreet x = new BullStreet();
        x.street(4);
        for (int s : new int[] {-1, 4, LOW, HIGH}) due("sheet " + s, x.widths(s, 0, 1), BAD);
        for (int n : new int[] {-1, 31, LOW, HIGH}) due("n " + n, x.widths(0, 0, n), BAD);
        due("missing, n 0", x.widths(0, 0, 0), -11);
        for (int sort = 1; sort < 5; sort++) {
            x.sheet(1, sort, 4);
            due("sort " + sort, x.widths(1, 0, 0), -13);
        }
        x.sheet(0, 0, 8);
        int[] items = {9, 1, 0, 10, 5, 6, 7, 8};
        for (int i = 0; i < 8; i++) x.put(0, i, items[i]);
        due("n 0, wherever", x.widths(0, HIGH, 0), 0);
        due("those refused are left out", x.widths(0, 1, 4), 2);
        int[] after = {1, 3, 3, 5};
        for (int c = 0; c < 4; c++) due("WIDTH of " + c, x.cellOf(c, 0), after[c]);
        due("behind the last cell", x.widths(0, 2, 6), 2);
        int[] then = {1, 3, 5, 6};
        for (int c = 0; c < 4; c++) due("WIDTH of " + c, x.cellOf(c, 0), then[c]);
        due("past the sheet", x.widths(0, 6, 3), -12);
        int[] came = {7, 8, 5, 6};
        for (int c = 0; c < 4; c++) due("what stood ahead came: WIDTH of " + c, x.cellOf(c, 0), came[c]);
        due("past the sheet, behind the last cell", x.widths(0, 0, 9), -12);
        due("WIDTH of 0", x.cellOf(0, 0), 9);
        for (int i : new int[] {-1, 8, LOW, HIGH}) due("from " + i, x.widths(0, i, 2), -12);
        due("nothing stood ahead", x.cellOf(0, 0), 9);
        x.put(0, 0, 265);
        x.widths(0, 0, 1);
        due("265 is 9 as a byte", x.cellOf(0, 0), 9);
        x.sheet(2, 0, 40);
        x.street(30);
        for (int i = 0; i < 40; i++) x.put(2, i, 4);
        due("30", x.widths(2, 10, 30), 30);
        due("the last", x.cellOf(29, 0), 4);
    }

    private static void shelf() {
        BullStreet x = new BullStreet();
        x.person(NEW, 1, 1);
        x.beast(0, 1);
        x.sheet(2, 1, 7);
        for (int s : new int[] {-1, 4, LOW, HIGH}) due("shelf " + s, x.shelf(s, 3, 0), BAD);
        for (int what : new int[] {-1, 4, LOW, HIGH}) due("what " + what, x.shelf(0, what, 0), BAD);
        for (int n : new int[] {-1, 1, LOW, HIGH}) due("person " + n, x.shelf(0, 0, n), BAD);
        for (int n : new int[] {-1, 1, LOW, HIGH}) due("beast " + n, x.shelf(0, 1, n), BAD);
        for (int n : new int[] {-1, 4, LOW, HIGH}) due("sheet " + n, x.shelf(0, 2, n), BAD);
        due("a person", x.shelf(0, 0, 0) * 10 + x.taken(0, 5), 10);
        due("refused: he stays", x.shelf(0, 1, 1) * 10 + x.taken(0, 5), -10);
        due("a beast", x.shelf(0, 1, 0) * 10 + x.taken(0, 8), 10);
        due("a row", x.shelf(0, 2, 2) * 10 + x.taken(0, 11), 17);
        x.sheet(2, 2, 3);
        due("the row itself, not its sheet", x.taken(0, 11), 7);
        x.sheet(2, -1, 0);
        due("even when that is missing", x.taken(0, 11), 7);
        due("a missing one", x.shelf(0, 2, 2) * 100 + x.taken(0, 11), 89);
        x.shelf(0, 0, 0);
        due("nothing, n counts nothing", x.shelf(0, 3, HIGH) * 100 + x.taken(0, 0), 89);
    }

    private static void taken() {
        BullStreet x = new BullStreet();
        boolean[][] is = new boolean[8][8];
        int[] above = {-1, 0, 0, 0, 1, 1, 3, 2};
        for (int kind = 1; kind < 8; kind++) for (int k = kind; k >= 0; k = above[k]) is[kind][k] = true;
        x.person(STANDING, 0, 1);
        x.person(RUNNING, 0, 1);
        x.shelf(1, 0, 1);
        for (int kind = 1; kind < 8; kind++) {
            x.moves(1, 0, kind);
            for (int as = 0; as < 8; as++) due("kind " + kind + " as " + as, x.taken(1, as), is[kind][as] ? 1 : -13);
            for (int as : new int[] {8, 10, 14}) due("kind " + kind + " as " + as, x.taken(1, as), -13);
        }
        x.beast(0, 1);
        x.shelf(2, 1, 0);
        for (int as = 0; as < 8; as++) due("a beast as " + as, x.taken(2, as), -13);
        due("a beast as 8", x.taken(2, 8), 0);
        due("a beast as 12", x.taken(2, 12), -13);
        for (int sort = 0; sort < 5; sort++) {
            x.sheet(0, sort, 30 + sort);
            x.shelf(3, 2, 0);
            for (int as = 0; as < 5; as++) due("row " + sort + " as " + as, x.taken(3, 10 + as), as == sort ? 30 + sort : -13);
            for (int as = 0; as < 9; as++) due("row as " + as, x.taken(3, as), -13);
        }
        for (int as : new int[] {-1, 9, 15, LOW, HIGH}) {
            due("as " + as, x.taken(1, as), BAD);
            due("nothing as " + as, x.taken(0, as), BAD);
        }
        for (int as : new int[] {0, 8, 10, 14}) due("nothing as " + as, x.taken(0, as), -11);
        for (int s : new int[] {-1, 4, LOW, HIGH}) due("shelf " + s, x.taken(s, 0), BAD);
        BullStreet y = new BullStreet();
        y.keep();
        y.person(STANDING, 0, 1);
        y.beast(0, 2);
        y.shelf(0, 0, 0);
        y.shelf(1, 1, 0);
        y.again();
        due("no such person any more", y.taken(0, 0), -11);
        due("no such beast any more", y.taken(1, 8), -11);
        due("it does nothing", y.act(0, 0, 1) * 10 + y.many(6), 0);
        y.person(LEAVING, 0, 1);
        due("by its number", y.taken(0, 7), 0);
    }

    private static void acts(BullStreet x, int shelf, int act, int number, int... bodies) {
        due("shelf " + shelf + " act " + act, x.act(shelf, act, 7), number);
        due("bodies of shelf " + shelf + " act " + act, x.many(6), bodies.length);
        for (int i = 0; i < bodies.length; i++) due("body " + i + " of shelf " + shelf + " act " + act, x.trace(i), bodies[i]);
        due("behind the trace", x.trace(bodies.length), NONE);
    }

    private static void act() {
        BullStreet x = new BullStreet();
        for (int i = 0; i < 6; i++) x.person(RUNNING, 0, 2);
        x.beast(0, 1);
        x.beast(0, 3);
        // n is 5, a is 2, x is 7
        x.shelf(0, 0, 5);
        acts(x, 0, 0, 27, 20, 10);
        acts(x, 0, 1, 54, 11, 20, 10);
        acts(x, 0, 2, -2, 12);
        acts(x, 0, 3, 54 ^ 5, 13, 11, 20, 10);
        x.moves(5, 0, STANDING);
        acts(x, 0, 0, 9, 10);
        acts(x, 0, 1, 16, 30, 11, 10);
        acts(x, 0, 2, -2, 12);
        acts(x, 0, 3, 16 ^ 5, 13, 30, 11, 10);
        x.moves(5, 0, FALLEN);
        acts(x, 0, 0, 9, 10);
        acts(x, 0, 1, 18, 11, 10);
        acts(x, 0, 2, -2, 40, 12);
        due("8 + 1 by 2 - 5", x.act(0, 2, 8), -3);
        acts(x, 0, 3, 18 ^ 5, 13, 11, 10);
        x.moves(5, 0, TOUCHING);
        acts(x, 0, 0, 27 ^ 5, 50, 20, 10);
        acts(x, 0, 1, (27 ^ 5) * 2, 11, 50, 20, 10);
        acts(x, 0, 2, -2, 12);
        acts(x, 0, 3, ((27 ^ 5) * 2 ^ 5) - 1, 51, 13, 11, 50, 20, 10, 12);
        x.moves(5, 0, NEW);
        acts(x, 0, 0, 27, 20, 10);
        acts(x, 0, 1, -54, 60, 11, 20, 10);
        acts(x, 0, 2, -2, 12);
        acts(x, 0, 3, -54 ^ 5, 13, 60, 11, 20, 10);
        x.moves(5, 0, HEAPED);
        acts(x, 0, 0, 4, 71, 10);
        acts(x, 0, 1, 8, 11, 71, 10);
        acts(x, 0, 2, -2 ^ 1, 70, 40, 12);
        due("9 by 2 - 5, ^ 1", x.act(0, 2, 8), -3 ^ 1);
        acts(x, 0, 3, 8 ^ 5, 13, 11, 71, 10);
        x.moves(5, 0, LEAVING);
        acts(x, 0, 0, 9, 10);
        acts(x, 0, 1, 23, 81, 30, 11, 10, 10);
        acts(x, 0, 2, -2, 12);
        acts(x, 0, 3, (23 ^ 5) * 2, 80, 13, 81, 30, 11, 10, 10);
        x.shelf(1, 1, 1);
        acts(x, 1, 0, -4, 90);
        acts(x, 1, 1, -4, 91, 90);
        acts(x, 1, 2, 7, 92);
        acts(x, 1, 3, -7, 93, 91, 90, 92);
        // parted by 0: the bodies that began are the trace
        x.shelf(2, 0, 2);
        acts(x, 2, 2, -15, 12);
        x.moves(2, 0, TOUCHING);
        acts(x, 2, 3, -15, 51, 13, 11, 50, 20, 10, 12);
        x.moves(2, 0, HEAPED);
        acts(x, 2, 2, -15, 70, 40, 12);
        x.person(STANDING, 0, 2);
        x.shelf(2, 0, 3);
        due("ints wrap in parting", x.act(2, 2, LOW), LOW);
        due("ints wrap", x.act(0, 0, HIGH), LOW + 1);
        x.act(0, 0, 1);
        due("an empty shelf", x.act(3, 0, 1) * 10 + x.many(6), 0);
        x.sheet(0, 0, 1);
        x.shelf(3, 2, 0);
        for (int[] none : new int[][] {{3, 0}, {0, -1}, {0, 4}, {-1, 0}, {4, 0}, {LOW, LOW}, {HIGH, HIGH}}) {
            x.act(0, 0, 1);
            due("no act " + none[0] + ", " + none[1], x.act(none[0], none[1], 1), 0);
            due("no trace then", x.trace(0), NONE);
        }
    }

    private static void trace() {
        BullStreet x = new BullStreet();
        due("none", x.trace(0), NONE);
        x.beast(0, 1);
        x.shelf(0, 1, 0);
        x.act(0, 3, 1);
        due("the last", x.trace(3), 92);
        for (int i : new int[] {-1, 4, 29, 30, LOW, HIGH}) due("trace(" + i + ")", x.trace(i), NONE);
        x.act(0, 0, 1);
        due("of the latest alone", x.trace(1), NONE);
    }

    private static void many() {
        BullStreet x = heapedOnes();
        x.street(7);
        read(x, "all run;all stand;");
        x.prove(4);
        x.feed(0, 5);
        x.shelf(0, 1, 0);
        x.act(0, 1, 0);
        // two rise and run ahead of the beast, one is too near to it to rise
        int[] want = {7, 3, 1, 2, 1, 5, 2};
        for (int what = 0; what < 7; what++) due("many(" + what + ")", x.many(what), want[what]);
        due("zeros are no laws", x.read(), -100);
        due("clauses stay", x.many(3), 2);
        due("none", x.read(), 0);
        due("clauses", x.many(3), 0);
        x.prove(4);
        due("rows", x.many(4), 3);
        for (int what : new int[] {-1, 7, LOW, HIGH}) due("what " + what, x.many(what), BAD);
    }

    private static void keepAndAgain() {
        BullStreet x = heapedOnes();
        read(x, "all stand;");
        x.cell(2, 1, 3);
        x.rule(1, 7);
        x.seed(55);
        x.run(1);
        x.prove(60);
        x.sheet(0, 2, 5);
        x.shelf(0, 1, 0);
        x.act(0, 0, 1);
        int z = x.seed(66);
        due("keep()", x.keep(), 1);
        x.street(20);
        x.person(NEW, 15, 3);
        x.beast(15, 4);
        x.moves(0, 18, RUNNING);
        read(x, "all run;all leave;");
        x.rule(1, 0);
        x.seed(1);
        x.run(3);
        feed(x, "all");
        x.prove(0);
        x.sheet(0, 1, 9);
        x.shelf(0, 2, 0);
        x.act(0, 0, 1);
        due("again()", x.again(), 1);
        int[] want = {10, 3, 1, 1, 0, 3, 0};
        for (int what = 0; what < 7; what++) due("many(" + what + ")", x.many(what), want[what]);
        due("TICK", x.morning(0), 1);
        due("SLIP", x.cellOf(2, 1), 3);
        due("CROWD", x.cellOf(4, 3), 2);
        due("KIND and CELL", x.personOf(0, 0) * 10 + x.personOf(0, 1), 64);
        due("BEAST", x.beastOf(0, 0), 1);
        due("RISE", x.rule(1, 5), 7);
        due("z", x.seed(z), 66);
        due("the laws", x.says(0), 0);
        due("the sheet stays", x.item(0, 1, 8), 0);
        due("the shelf stays", x.taken(0, 11), 9);
        x.run(5);
        x.rule(0, 9);
        x.cell(0, 0, 9);
        due("again, once more", x.again(), 1);
        due("it stayed: TICK", x.morning(0), 1);
        due("it stayed: RISE", x.rule(1, 2), 7);
        due("it stayed: WIDTH", x.cellOf(0, 0), 3);
        due("it stayed: HURTS", x.morning(1), 0);
        x.run(2);
        x.keep();
        x.run(2);
        x.again();
        due("the latest", x.morning(0), 3);
    }

    public static void main(String[] args) {
        Runnable[] promises = {PromisesTest::newObject, PromisesTest::street, PromisesTest::cell, PromisesTest::cellOf, PromisesTest::rule,
            PromisesTest::seed, PromisesTest::person, PromisesTest::personOf, PromisesTest::beast, PromisesTest::beastOf, PromisesTest::moves,
            PromisesTest::feedIt, PromisesTest::readIt, PromisesTest::says, PromisesTest::fact, PromisesTest::runTenths, PromisesTest::morning,
            PromisesTest::odds, PromisesTest::begin, PromisesTest::door, PromisesTest::limit, PromisesTest::law, PromisesTest::together,
            PromisesTest::harm, PromisesTest::prove, PromisesTest::row, PromisesTest::alterRow, PromisesTest::judge, PromisesTest::sheet,
            PromisesTest::put, PromisesTest::item, PromisesTest::widths, PromisesTest::shelf, PromisesTest::taken, PromisesTest::act,
            PromisesTest::trace, PromisesTest::many, PromisesTest::keepAndAgain};
        for (Runnable each : promises) {
            promise++;
            each.run();
        }
        System.out.println(asked + " answers, " + wrong + " not as due");
        if (wrong != 0) System.exit(1);
    }

    private static void runTenths() {
        runBeasts();
        runPeople();
        runActs();
        runHarm();
    }
}
