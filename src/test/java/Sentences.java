import java.io.IOException;
import java.lang.reflect.InvocationTargetException;
import java.lang.reflect.Method;
import java.nio.file.Files;
import java.nio.file.Path;
import java.util.ArrayList;
import java.util.HashMap;
import java.util.List;
import java.util.Map;
import java.util.function.Supplier;

/**
 * What the tests by sentences share. Each of them holds a list of quotations of the document, and beside each the
 * function that asks what the quotation promises. Calls are written as texts, so that what is told of a wrong answer
 * is the call that was asked.
 */
final class Sentences {
    static final int BAD = -1, FULL = -2, NONE = -3, GONE = -9;
    static final int NOTHING = -11, OUTSIDE = -12, OTHER_SORT = -13, BELOW_ZERO = -14, BY_ZERO = -15;
    static final int LOW = Integer.MIN_VALUE, HIGH = Integer.MAX_VALUE;
    static final int RUNNING = 1, STANDING = 2, FALLEN = 3, TOUCHING = 4, NEW = 5, HEAPED = 6, LEAVING = 7;

    private static final Path DOCUMENT = Path.of("../shared/DOC.md");
    private static final Map<String, Method> METHODS = new HashMap<>();

    static {
        for (Method m : BullStreet.class.getMethods()) if (m.getDeclaringClass() == BullStreet.class) METHODS.put(m.getName(), m);
    }

    private static String document = null;
    private static String sentence = "";
    private static int sentences = 0, asked = 0, wrong = 0;

    private Sentences() { }

    /** A quotation may leave words out: " [..] " stands for them. */
    static void sentence(String quoted, Runnable test) {
        sentence = quoted;
        sentences++;
        for (String part : quoted.split(" \\[\\.\\.\\] ")) hold(isInDocument(part), "the document doesn't say: " + part);
        int before = asked;
        test.run();
        hold(asked > before, "nothing is asked");
    }

    static void end() {
        System.out.println(sentences + " sentences, " + asked + " answers, " + wrong + " not as due");
        if (wrong != 0) System.exit(1);
    }

    private static boolean isInDocument(String words) {
        if (!Files.exists(DOCUMENT)) return true;
        try {
            if (document == null) document = Files.readString(DOCUMENT).replaceAll("\\s+", " ");
        } catch (IOException e) {
            throw new IllegalStateException(e);
        }
        return document.contains(words);
    }

    static void hold(boolean holds, String what) {
        if (holds) return;
        wrong++;
        System.out.println("'" + sentence + "': " + what);
    }

    static void due(String what, int got, int want) {
        asked++;
        hold(got == want, what + " answered " + got + ", due is " + want);
    }

    static void due(BullStreet x, String call, int want) { due(call, ask(x, call), want); }

    /** The call once for each value, which comes in place of the question mark. */
    static void dueEach(BullStreet x, String call, int want, int... values) {
        for (int v : values) due(x, call.replace("?", Integer.toString(v)), want);
    }

    /** The call with 0, 1, .. in place of the question mark, and what is due for each. */
    static void dueAll(BullStreet x, String call, int... wants) {
        for (int i = 0; i < wants.length; i++) due(x, call.replace("?", Integer.toString(i)), wants[i]);
    }

    static int ask(BullStreet x, String call) {
        int open = call.indexOf('('), close = call.lastIndexOf(')');
        Method method = METHODS.get(call.substring(0, open));
        String inner = call.substring(open + 1, close).trim();
        String[] parts = inner.isEmpty() ? new String[0] : inner.split("\\s*,\\s*");
        Object[] args = new Object[parts.length];
        for (int i = 0; i < parts.length; i++) {
            if (method.getParameterTypes()[i] == long.class) args[i] = Long.parseLong(parts[i]);
            else args[i] = parts[i].equals("LOW") ? LOW : parts[i].equals("HIGH") ? HIGH : Integer.parseInt(parts[i]);
        }
        try {
            return (Integer) method.invoke(x, args);
        } catch (IllegalAccessException | InvocationTargetException e) {
            throw new IllegalStateException(call, e);
        }
    }

    /** A new street after these calls, none of which may be refused. */
    static BullStreet after(String... calls) { return then(new BullStreet(), calls); }

    static BullStreet then(BullStreet x, String... calls) {
        for (String call : calls) hold(ask(x, call) >= 0, call + " is refused where a test begins");
        return x;
    }

    static void feed(BullStreet x, String text) {
        for (int i = 0; i < text.length(); i += 8) {
            long eight = 0;
            int n = Math.min(8, text.length() - i);
            for (int k = n - 1; k >= 0; k--) eight = eight << 8 | text.charAt(i + k) & 255;
            hold(x.feed(eight, n) >= 0, "THE TAPE is full where a test begins");
        }
    }

    static int read(BullStreet x, String text) {
        feed(x, text);
        return x.read();
    }

    static BullStreet laws(BullStreet x, String text) {
        hold(read(x, text) >= 0, "LAWS are refused where a test begins: " + text);
        return x;
    }

    static int next(int z) { return z * 1103515245 + 12345; }

    static int drawn(int z) { return (z >>> 16) % 8; }

    /** A z after which these numbers (0 to 7) are drawn one after the other; the first next z is below 0, if so wanted. */
    static int seedFor(boolean below, int... draws) {
        for (int v = 1; v < 100_000_000; v++) {
            int z = next(v);
            boolean fits = z < 0 == below;
            for (int i = 0; i < draws.length && fits; i++) {
                fits = drawn(z) == draws[i];
                z = next(z);
            }
            if (fits) return v;
        }
        throw new IllegalStateException("no such z");
    }

    /** A BEAST comes to be ALONE in CELL c (1 or above), one TENTH later; the stones there slip no more then. */
    static int lone(BullStreet x, int c, int pace) {
        int b = x.beast(c - 1, pace);
        x.cell(c, 1, 4);
        int z = x.seed(seedFor(false, 0));
        x.run(1);
        x.seed(z);
        x.cell(c, 1, 0);
        hold(x.beastOf(b, 2) == 1 && x.beastOf(b, 0) == c, "there is no lone BEAST where a test begins");
        return b;
    }

    /**
     * A street in which every promise has something to tell: nine CELLS, six PEOPLE (4 is OUT), two BEASTS, four CLAUSES, ROWS, SHEETS
     * of bytes, longs, no booleans and a missing one, SHELVES with a PERSON, a BEAST, a row and nothing, a TRACE, a TAPE, a kept street.
     */
    static BullStreet told() {
        BullStreet x = after("street(9)", "cell(2, 0, 5)", "cell(3, 1, 4)", "cell(4, 2, 1)", "rule(0, 4)", "rule(1, 3)", "rule(2, 4)",
            "person(1, 2, 1)", "person(2, 4, 2)", "person(6, 5, 3)", "person(4, 1, 2)", "beast(0, 1)", "beast(1, 2)", "seed(" + seedFor(false, 0) + ")");
        laws(x, "new stand;running run if near<5;standing stand;all leave if tick>2;");
        then(x, "run(1)", "keep()", "person(1, 8, 3)", "person(2, 6, 1)", "rule(0, 5)", "run(1)", "prove(3)",
            "sheet(0, 0, 5)", "put(0, 0, 9)", "put(0, 1, 4)", "put(0, 2, 77)", "sheet(1, 3, 2)", "put(1, 1, -5)", "sheet(2, 4, 0)",
            "shelf(0, 0, 3)", "shelf(1, 1, 1)", "shelf(2, 2, 0)", "act(0, 3, 5)");
        feed(x, "all down;");
        hold(x.many(4) == 3 && x.personOf(4, 1) == GONE && x.morning(2) == 1, "the street isn't as told where a test begins");
        return x;
    }

    /** As told, with 20 PEOPLE, 6 BEASTS, 200 bytes. */
    static BullStreet full() {
        BullStreet x = told();
        for (int p = 6; p < 20; p++) x.person(2, 0, 1);
        for (int b = 2; b < 6; b++) x.beast(8, 1);
        feed(x, " ".repeat(191));
        hold(x.many(1) == 20 && x.many(2) == 6 && x.many(5) == 200, "the street isn't full where a test begins");
        return x;
    }

    /**
     * What there is to be seen of x, each answer with its call; at last those that use THE TAPE up and go back to what was kept.
     * With what told() and full() take it stays below the 512 calls of which answers are promised.
     */
    static List<String> picture(BullStreet x) {
        List<String> all = new ArrayList<>();
        seen(all, x, "");
        for (int what = 0; what < 3; what++) all.add("RULE " + what + " " + ruleOf(x, what));
        int z = x.seed(0);
        x.seed(z);
        all.add("z " + z);
        for (int i = 0, rows = x.many(4); i < rows; i++) add(all, x, "row(" + i + ", ?)", 3);
        add(all, x, "trace(?)", x.many(6));
        int[] sorts = {0, 3, 4, 0};
        for (int s = 0; s < 4; s++) {
            add(all, x, "item(" + s + ", ?, 0)", 5);
            add(all, x, "item(" + s + ", " + sorts[s] + ", ?)", 5);
            for (int as : new int[] {0, 1, 8, 10, 13}) all.add("taken(" + s + ", " + as + ") " + x.taken(s, as));
        }
        all.add("harm(60) " + x.harm(60) + " together(60) " + x.together(60) + " judge() " + x.judge());
        all.add("read() " + x.read());
        add(all, x, "says(?)", 4);
        all.add("again() " + x.again());
        seen(all, x, "kept: ");
        all.add("kept: harm(60) " + x.harm(60) + " together(60) " + x.together(60));
        return all;
    }

    private static void seen(List<String> all, BullStreet x, String when) {
        int cells = x.many(0), people = x.many(1), beasts = x.many(2);
        List<String> found = new ArrayList<>();
        add(found, x, "many(?)", 7);
        add(found, x, "morning(?)", 4);
        for (int c = 0; c < cells; c++) add(found, x, "cellOf(" + c + ", ?)", 6);
        for (int p = 0; p < people; p++) add(found, x, "personOf(" + p + ", ?)", 5);
        for (int b = 0; b < beasts; b++) add(found, x, "beastOf(" + b + ", ?)", 3);
        add(found, x, "says(?)", 4);
        for (String each : found) all.add(when + each);
    }

    private static void add(List<String> all, BullStreet x, String call, int n) {
        for (int i = 0; i < n; i++) {
            String each = call.replace("?", Integer.toString(i));
            all.add(each + " " + ask(x, each));
        }
    }

    /** A RULE can be read by setting it alone. */
    private static int ruleOf(BullStreet x, int what) {
        int was = x.rule(what, 3);
        x.rule(what, was);
        return was;
    }

    /** Two streets made alike, one of them after the call: their answers may differ only in those that begin as told. */
    static void changesOnly(Supplier<BullStreet> made, String call, String... beginnings) {
        BullStreet x = made.get();
        ask(x, call);
        alike(call, x, made.get(), beginnings);
    }

    static void alike(String call, BullStreet x, BullStreet without, String... beginnings) {
        List<String> seen = picture(x), due = picture(without);
        for (String each : beginnings) {
            seen.removeIf(answer -> answer.startsWith(each));
            due.removeIf(answer -> answer.startsWith(each));
        }
        asked++;
        int i = 0;
        while (i < seen.size() && i < due.size() && seen.get(i).equals(due.get(i))) i++;
        boolean same = i == seen.size() && i == due.size();
        hold(same, "after " + call + ": " + (i < seen.size() ? seen.get(i) : "less") + ", without: " + (i < due.size() ? due.get(i) : "less"));
    }
}
