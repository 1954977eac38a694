import java.util.Random;

/** Drawn runs of calls: BullStreet must answer each as BullStreetModel does. The draws are the same every time. */
public final class ModelTest {
    private static final int RUNS = 1500, CALLS = 512;
    private static final String[] WHO = {"all", "running", "standing", "fallen", "touching", "new", "heaped", "leaving"};
    private static final String[] ACT = {"run", "stand", "leave", "down"};
    private static final String[] VALUE = {"near", "crowd", "ahead", "place", "tick", "lone"};
    private static final String[] STRAY = {"(", ")", ";", "if", "or", "and", "not", "<", "=", "all", "run", "near", "12345", "7",
        "person", "A", "\u00e9", "\t", "runn", "no", "0000", "ifs"};

    private final Random random;
    private final BullStreet real = new BullStreet();
    private final BullStreetModel model = new BullStreetModel();
    private int wrong = 0;

    private ModelTest(int run) { random = new Random(run); }

    private int draw(int least, int most) { return least + random.nextInt(most - least + 1); }

    /** Mostly within, now and then at or past the edges. */
    private int near(int least, int most) {
        int sort = random.nextInt(40);
        if (sort == 0) return least - 1;
        if (sort == 1) return most + 1;
        if (sort == 2) return random.nextInt(8) > 0 ? draw(least, most) : random.nextBoolean() ? Integer.MAX_VALUE : Integer.MIN_VALUE;
        return draw(least, most);
    }

    private int number() { return random.nextInt(4) > 0 ? draw(-20, 60) : random.nextInt(); }

    private int tenths() { return random.nextInt(3) > 0 ? near(0, 12) : near(0, 60); }

    private int man() { return near(0, Math.max(0, model.many(1) - 1)); }

    private int bull() { return near(0, Math.max(0, model.many(2) - 1)); }

    private int place() { return near(0, model.many(0) - 1); }

    private void same(String call, int got, int due) {
        if (got == due) return;
        wrong++;
        System.out.println(call + " answered " + got + ", due is " + due);
    }

    private String value() { return random.nextInt(3) == 0 ? Integer.toString(draw(0, random.nextInt(5) == 0 ? 9999 : 6)) : VALUE[draw(0, 5)]; }

    private String blank() { return random.nextInt(3) == 0 ? "  ".substring(random.nextInt(2)) : ""; }

    private String cond(int open) {
        StringBuilder s = new StringBuilder();
        int parts = draw(1, 2);
        for (int i = 0; i < parts; i++) {
            if (i > 0) s.append(random.nextBoolean() ? " or " : " and ");
            int nots = random.nextInt(3) == 0 ? draw(1, 3) : 0;
            for (int k = 0; k < nots; k++) s.append("not ");
            int deepest = random.nextInt(20) == 0 ? 4 : 3;
            if (random.nextInt(3) == 0 && open < deepest) s.append("(").append(blank()).append(cond(open + 1)).append(blank()).append(")");
            else s.append(value()).append(blank()).append("<=>".charAt(draw(0, 2))).append(blank()).append(value());
        }
        return s.toString();
    }

    private String text() {
        StringBuilder s = new StringBuilder(blank());
        int clauses = random.nextInt(12) == 0 ? 9 : draw(0, 4);
        for (int i = 0; i < clauses; i++) {
            s.append(WHO[draw(0, 7)]).append(" ").append(blank()).append(ACT[draw(0, 3)]);
            if (random.nextInt(3) > 0 && clauses < 9) s.append(" if ").append(cond(0));
            s.append(blank()).append(";").append(blank());
        }
        if (random.nextInt(4) == 0) {
            int at = draw(0, s.length());
            s.insert(at, STRAY[random.nextInt(STRAY.length)]);
        }
        if (random.nextInt(5) == 0) s.setLength(draw(0, s.length()));
        return s.toString();
    }

    private void feed(String s) {
        for (int i = 0; i < s.length(); i += 8) {
            long eight = 0;
            int n = Math.min(8, s.length() - i);
            for (int k = n - 1; k >= 0; k--) eight = eight << 8 | s.charAt(i + k);
            same("feed", real.feed(eight, n), model.feed(eight, n));
        }
    }

    private void laws() {
        String s = text();
        feed(s);
        if (random.nextInt(30) > 0) same("read() of '" + s + "'", real.read(), model.read());
    }

    private void call() {
        int a, b, c;
        switch (random.nextInt(52)) {
            case 0 -> { a = random.nextInt(4) == 0 ? near(2, 30) : draw(6, 14); if (random.nextInt(6) == 0) same("street(" + a + ")", real.street(a), model.street(a)); }
            case 1, 2, 3 -> { a = place(); b = near(0, 2); c = b == 0 ? near(1, 9) : b == 1 ? near(0, 4) : near(0, 1);
                same("cell(" + a + ", " + b + ", " + c + ")", real.cell(a, b, c), model.cell(a, b, c)); }
            case 4, 5 -> { a = place(); b = near(0, 5); same("cellOf(" + a + ", " + b + ")", real.cellOf(a, b), model.cellOf(a, b)); }
            case 6 -> { a = near(0, 2); b = near(a == 2 ? 2 : a == 1 ? 0 : 1, random.nextBoolean() ? 4 : 9);
                same("rule(" + a + ", " + b + ")", real.rule(a, b), model.rule(a, b)); }
            case 7 -> { a = number(); same("seed(" + a + ")", real.seed(a), model.seed(a)); }
            case 8, 9, 10 -> { a = near(1, 7); b = place(); c = near(1, 3);
                same("person(" + a + ", " + b + ", " + c + ")", real.person(a, b, c), model.person(a, b, c)); }
            case 11, 12 -> { a = man(); b = near(0, 4); same("personOf(" + a + ", " + b + ")", real.personOf(a, b), model.personOf(a, b)); }
            case 13 -> { a = place(); b = near(1, 4); same("beast(" + a + ", " + b + ")", real.beast(a, b), model.beast(a, b)); }
            case 14 -> { a = bull(); b = near(0, 2); same("beastOf(" + a + ", " + b + ")", real.beastOf(a, b), model.beastOf(a, b)); }
            case 15, 16, 17 -> { a = man(); b = place(); c = near(1, 7);
                same("moves(" + a + ", " + b + ", " + c + ")", real.moves(a, b, c), model.moves(a, b, c)); }
            case 18 -> laws();
            case 19 -> { long eight = random.nextLong(); a = near(1, 8); if (random.nextInt(6) == 0) same("feed(" + eight + ", " + a + ")", real.feed(eight, a), model.feed(eight, a)); }
            case 20, 21 -> { a = man(); same("says(" + a + ")", real.says(a), model.says(a)); }
            case 22, 23 -> { a = man(); b = near(0, 5); same("fact(" + a + ", " + b + ")", real.fact(a, b), model.fact(a, b)); }
            case 24, 25, 26 -> { a = random.nextInt(10) == 0 ? near(0, 60) : near(0, 3); same("run(" + a + ")", real.run(a), model.run(a)); }
            case 27 -> { a = near(0, 3); same("morning(" + a + ")", real.morning(a), model.morning(a)); }
            case 28 -> { a = man(); b = tenths(); c = near(0, 1); if (random.nextInt(3) == 0) same("odds(" + a + ", " + b + ", " + c + ")", real.odds(a, b, c), model.odds(a, b, c)); }
            case 29 -> { a = man(); b = tenths(); if (random.nextInt(3) == 0) same("begin(" + a + ", " + b + ")", real.begin(a, b), model.begin(a, b)); }
            case 30 -> { a = tenths(); if (random.nextInt(3) == 0) same("door(" + a + ")", real.door(a), model.door(a)); }
            case 31 -> { a = tenths(); if (random.nextInt(3) == 0) same("limit(" + a + ")", real.limit(a), model.limit(a)); }
            case 32 -> { a = near(0, Math.max(0, model.many(3) - 1)); b = tenths(); same("law(" + a + ", " + b + ")", real.law(a, b), model.law(a, b)); }
            case 33 -> { a = tenths(); same("together(" + a + ")", real.together(a), model.together(a)); }
            case 34 -> { a = tenths(); same("harm(" + a + ")", real.harm(a), model.harm(a)); }
            case 35 -> { a = tenths(); same("prove(" + a + ")", real.prove(a), model.prove(a)); }
            case 36 -> { a = near(0, Math.max(0, model.many(4) - 1)); b = near(0, 2); same("row(" + a + ", " + b + ")", real.row(a, b), model.row(a, b)); }
            case 37 -> { a = near(0, Math.max(0, model.many(4) - 1)); b = near(0, 2); c = draw(0, 12);
                if (random.nextInt(3) == 0) same("alterRow(" + a + ", " + b + ", " + c + ")", real.alterRow(a, b, c), model.alterRow(a, b, c)); }
            case 38 -> same("judge()", real.judge(), model.judge());
            case 39 -> { a = near(0, 3); b = near(random.nextInt(8) == 0 ? -1 : 0, 4); c = near(0, 40);
                same("sheet(" + a + ", " + b + ", " + c + ")", real.sheet(a, b, c), model.sheet(a, b, c)); }
            case 40, 41 -> { a = near(0, 3); b = near(0, random.nextBoolean() ? 5 : 39); c = random.nextBoolean() ? draw(0, 10) : number();
                same("put(" + a + ", " + b + ", " + c + ")", real.put(a, b, c), model.put(a, b, c)); }
            case 42 -> { a = near(0, 3); b = near(0, 4); c = near(0, random.nextBoolean() ? 5 : 39);
                same("item(" + a + ", " + b + ", " + c + ")", real.item(a, b, c), model.item(a, b, c)); }
            case 43 -> { a = near(0, 3); b = near(0, 12); c = near(0, random.nextBoolean() ? 6 : 30);
                same("widths(" + a + ", " + b + ", " + c + ")", real.widths(a, b, c), model.widths(a, b, c)); }
            case 44, 45 -> { a = near(0, 3); b = near(0, 3); c = b == 0 ? man() : b == 1 ? bull() : near(0, 3);
                same("shelf(" + a + ", " + b + ", " + c + ")", real.shelf(a, b, c), model.shelf(a, b, c)); }
            case 46 -> { a = near(0, 3); b = near(0, 14); same("taken(" + a + ", " + b + ")", real.taken(a, b), model.taken(a, b)); }
            case 47 -> { a = near(0, 3); b = near(0, 3); c = number(); same("act(" + a + ", " + b + ", " + c + ")", real.act(a, b, c), model.act(a, b, c)); }
            case 48 -> { a = near(0, 7); same("trace(" + a + ")", real.trace(a), model.trace(a)); }
            case 49 -> { a = near(0, 6); same("many(" + a + ")", real.many(a), model.many(a)); }
            case 50 -> { if (random.nextInt(3) == 0) same("keep()", real.keep(), model.keep()); }
            default -> { if (random.nextInt(3) == 0) same("again()", real.again(), model.again()); }
        }
    }

    private void wholeState() {
        for (int what = 0; what <= 6; what++) same("many(" + what + ")", real.many(what), model.many(what));
        for (int what = 0; what <= 3; what++) same("morning(" + what + ")", real.morning(what), model.morning(what));
        for (int c = 0; c < model.many(0); c++) for (int what = 0; what <= 5; what++) same("cellOf", real.cellOf(c, what), model.cellOf(c, what));
        for (int p = 0; p < model.many(1); p++) {
            same("says", real.says(p), model.says(p));
            for (int what = 0; what <= 5; what++) {
                same("personOf", real.personOf(p, what), model.personOf(p, what));
                same("fact", real.fact(p, what), model.fact(p, what));
            }
        }
        for (int b = 0; b < model.many(2); b++) for (int what = 0; what <= 2; what++) same("beastOf", real.beastOf(b, what), model.beastOf(b, what));
        for (int i = 0; i < 24; i++) for (int what = 0; what <= 2; what++) same("row", real.row(i, what), model.row(i, what));
        for (int i = 0; i < 8; i++) same("trace", real.trace(i), model.trace(i));
        for (int s = 0; s < 4; s++) {
            for (int sort = 0; sort < 5; sort++) for (int i = 0; i < 40; i++) same("item", real.item(s, sort, i), model.item(s, sort, i));
            for (int as = 0; as <= 14; as++) same("taken", real.taken(s, as), model.taken(s, as));
        }
    }

    public static void main(String[] args) {
        int wrong = 0;
        int runs = args.length > 0 ? Integer.parseInt(args[0]) : RUNS;
        for (int run = 0; run < runs && wrong < 20; run++) {
            ModelTest test = new ModelTest(run);
            for (int i = 0; i < CALLS && test.wrong == 0; i++) {
                test.call();
                if (i % 64 == 63) test.wholeState();
                if (test.wrong > 0) System.out.println("  in run " + run + ", draw " + i);
            }
            wrong += test.wrong;
        }
        System.out.println(wrong == 0 ? "all answers are the model's" : wrong + " answers are not the model's");
        if (wrong != 0) System.exit(1);
    }
}
