import java.util.ArrayList;
import java.util.Arrays;
import java.util.List;

/**
 * The document once more, written as unlike BullStreet as can be: objects instead of rows of numbers, everything
 * counted anew each time, laws as trees, acts by real classes. ModelTest holds the two against each other.
 */
final class BullStreetModel {
    static final int OUT = -9;

    static final class Cell {
        int width = 3, slip = 0, door = 0;

        Cell copy() {
            Cell c = new Cell();
            c.width = width;
            c.slip = slip;
            c.door = door;
            return c;
        }
    }

    static final class Man {
        int kind, cell, pace, hurts;

        Man(int kind, int cell, int pace, int hurts) {
            this.kind = kind;
            this.cell = cell;
            this.pace = pace;
            this.hurts = hurts;
        }

        boolean runs() { return kind == 1 || kind == 4 || kind == 5; }

        boolean lies() { return kind == 3 || kind == 6; }

        boolean in(int c) { return cell == c; }
    }

    static final class Bull {
        int cell, pace;
        boolean alone;

        Bull(int cell, int pace, boolean alone) {
            this.cell = cell;
            this.pace = pace;
            this.alone = alone;
        }
    }

    interface Cond { boolean holds(World w, Man m); }

    interface Value { int of(World w, Man m); }

    record Clause(String who, String act, Cond cond) {
        boolean isFor(Man m) {
            return switch (who) {
                case "all" -> true;
                case "running" -> m.runs();
                case "standing" -> m.kind == 2 || m.kind == 7;
                case "fallen" -> m.lies();
                case "touching" -> m.kind == 4;
                case "new" -> m.kind == 5;
                case "heaped" -> m.kind == 6;
                default -> m.kind == 7;
            };
        }
    }

    record Harm(int tenth, int person, int cell, int by) { }

    static final class World {
        List<Cell> cells = new ArrayList<>();
        List<Man> men = new ArrayList<>();
        List<Bull> bulls = new ArrayList<>();
        List<Clause> laws = new ArrayList<>();
        int sight = 3, rise = 2, heap = 3, tick = 0, z = 1;

        World() {
            for (int i = 0; i < 10; i++) cells.add(new Cell());
        }

        World copy() {
            World w = new World();
            w.cells.clear();
            for (Cell c : cells) w.cells.add(c.copy());
            for (Man m : men) w.men.add(new Man(m.kind, m.cell, m.pace, m.hurts));
            for (Bull b : bulls) w.bulls.add(new Bull(b.cell, b.pace, b.alone));
            w.laws = new ArrayList<>(laws);
            w.sight = sight;
            w.rise = rise;
            w.heap = heap;
            w.tick = tick;
            w.z = z;
            return w;
        }

        int crowd(int c) { return (int) men.stream().filter(m -> m.in(c)).count(); }

        int lying(int c) { return (int) men.stream().filter(m -> m.in(c) && m.lies()).count(); }

        int bullsIn(int c) { return (int) bulls.stream().filter(b -> b.cell == c).count(); }

        int lone() { return (int) bulls.stream().filter(b -> b.cell != OUT && b.alone).count(); }

        int near(Man m) {
            return bulls.stream().filter(b -> b.cell != OUT && b.cell <= m.cell).mapToInt(b -> m.cell - b.cell).min().orElse(99);
        }

        int ahead(Man m) { return m.cell + 1 < cells.size() ? crowd(m.cell + 1) : 99; }

        int heaps() { return (int) men.stream().filter(m -> m.cell != OUT && m.kind == 6).mapToInt(m -> m.cell).distinct().count(); }

        int clause(Man m) {
            for (int k = 0; k < laws.size(); k++) {
                Clause c = laws.get(k);
                if (c.isFor(m) && (c.cond() == null || c.cond().holds(this, m))) return k;
            }
            return -9;
        }

        List<Harm> tenths(int n) {
            List<Harm> all = new ArrayList<>();
            for (int t = 1; t <= n; t++) tenth(t, all);
            return all;
        }

        void tenth(int t, List<Harm> harms) {
            tick += 1;
            for (Bull b : bulls) {
                if (b.cell == OUT) continue;
                if (b.alone) seek(b);
                else charge(b);
            }
            for (Man m : men) if (m.cell != OUT) turn(m);
            for (int p = 0; p < men.size(); p++) {
                Man m = men.get(p);
                if (m.cell == OUT || bullsIn(m.cell) == 0) continue;
                int by = new int[] {0, 1, 0, 0, 2, 2, 1, 0}[m.kind];
                if (bulls.stream().anyMatch(b -> b.cell == m.cell && b.alone)) by += 1;
                if (by == 0) continue;
                m.hurts += by;
                harms.add(new Harm(t, p, m.cell, by));
                if (m.runs()) m.kind = 3;
            }
            for (int c = 0; c < cells.size(); c++) {
                if (lying(c) < heap) continue;
                for (Man m : men) if (m.in(c) && m.lies()) m.kind = 6;
            }
        }

        void charge(Bull b) {
            int left = b.pace;
            while (left > 0) {
                left--;
                b.cell++;
                if (b.cell == cells.size()) {
                    b.cell = OUT;
                    left = 0;
                } else if (cells.get(b.cell).slip > 0) {
                    z = z * 1103515245 + 12345;
                    if ((z >>> 16) % 8 < cells.get(b.cell).slip) {
                        b.alone = true;
                        left = 0;
                    }
                }
            }
        }

        void seek(Bull b) {
            Man nearest = null;
            for (Man m : men) {
                if (m.cell == OUT || Math.abs(m.cell - b.cell) > sight) continue;
                if (nearest == null) nearest = m;
                int was = Math.abs(nearest.cell - b.cell), is = Math.abs(m.cell - b.cell);
                if (is < was || is == was && m.cell > nearest.cell) nearest = m;
            }
            if (nearest != null) b.cell += Integer.signum(nearest.cell - b.cell);
        }

        void turn(Man m) {
            int k = clause(m);
            String act = k >= 0 ? laws.get(k).act() : m.runs() ? "run" : "stand";
            switch (act) {
                case "run" -> run(m);
                case "leave" -> {
                    if (cells.get(m.cell).door == 1) m.cell = OUT;
                    else run(m);
                }
                case "down" -> {
                    if (!m.lies()) m.kind = 3;
                }
                default -> { }
            }
        }

        void run(Man m) {
            if (m.lies()) {
                if (near(m) > rise && (m.kind == 3 || lying(m.cell) < heap)) m.kind = 1;
                return;
            }
            int left = m.kind == 4 ? m.pace + 1 : m.kind == 5 ? Math.max(1, m.pace - 1) : m.pace;
            while (left-- > 0) {
                int next = m.cell + 1;
                if (next == cells.size()) {
                    m.cell = OUT;
                    return;
                }
                if (crowd(next) >= cells.get(next).width || lying(next) >= heap) return;
                m.cell = next;
            }
        }
    }

    // ---- laws

    static final class Fault extends Exception {
        private static final long serialVersionUID = 1;
        final int place;

        Fault(int place) { this.place = place; }
    }

    static final class Text {
        final String s;
        int i = 0;

        Text(String s) { this.s = s; }

        void blanks() { while (i < s.length() && s.charAt(i) == ' ') i++; }

        String peek() {
            blanks();
            if (i == s.length()) return "";
            int j = i;
            if (Character.toString(s.charAt(i)).matches("[a-z]")) while (j < s.length() && Character.toString(s.charAt(j)).matches("[a-z]")) j++;
            else if (Character.toString(s.charAt(i)).matches("[0-9]")) while (j < s.length() && Character.toString(s.charAt(j)).matches("[0-9]")) j++;
            else j++;
            return s.substring(i, j);
        }

        String take(String pattern) throws Fault {
            String t = peek();
            if (t.isEmpty() || !t.matches(pattern)) throw new Fault(i);
            i += t.length();
            return t;
        }

        List<Clause> text() throws Fault {
            List<Clause> all = new ArrayList<>();
            while (!peek().isEmpty()) {
                if (all.size() == 8) throw new Fault(i);
                String who = take("all|running|standing|fallen|touching|new|heaped|leaving");
                String act = take("run|stand|leave|down");
                Cond cond = null;
                if (take(";|if").equals("if")) {
                    cond = cond(0);
                    take(";");
                }
                all.add(new Clause(who, act, cond));
            }
            return all;
        }

        Cond cond(int open) throws Fault {
            Cond left = all(open);
            if (!peek().equals("or")) return left;
            take("or");
            Cond right = cond(open);
            return (w, m) -> left.holds(w, m) || right.holds(w, m);
        }

        Cond all(int open) throws Fault {
            Cond left = one(open);
            if (!peek().equals("and")) return left;
            take("and");
            Cond right = all(open);
            return (w, m) -> left.holds(w, m) && right.holds(w, m);
        }

        Cond one(int open) throws Fault {
            if (peek().equals("not")) {
                take("not");
                Cond inner = one(open);
                return (w, m) -> !inner.holds(w, m);
            }
            if (peek().equals("(")) {
                if (open == 3) throw new Fault(i);
                take("\\(");
                Cond inner = cond(open + 1);
                take("\\)");
                return inner;
            }
            Value left = value();
            String sign = take("[<=>]");
            Value right = value();
            return (w, m) -> {
                int sense = Integer.compare(left.of(w, m), right.of(w, m));
                return sense == (sign.equals("<") ? -1 : sign.equals("=") ? 0 : 1);
            };
        }

        Value value() throws Fault {
            String t = take("[0-9]{1,4}|near|crowd|ahead|place|tick|lone");
            return switch (t) {
                case "near" -> (w, m) -> w.near(m);
                case "crowd" -> (w, m) -> w.crowd(m.cell);
                case "ahead" -> (w, m) -> w.ahead(m);
                case "place" -> (w, m) -> m.cell;
                case "tick" -> (w, m) -> w.tick;
                case "lone" -> (w, m) -> w.lone();
                default -> (w, m) -> Integer.parseInt(t);
            };
        }
    }

    // ---- acts

    abstract static class Thing {
        int n, a;
        List<Integer> trace;

        void b(int number) { trace.add(number); }

        abstract int runs(int x);

        abstract int sees(int x);

        abstract int falls(int x);

        abstract int harms(int x);
    }

    static class Person extends Thing {
        int runs(int x) { b(10); return x + a; }

        int sees(int x) { b(11); return runs(x) * 2; }

        int falls(int x) { b(12); return x / (a - n); }

        int harms(int x) { b(13); return sees(x) ^ n; }
    }

    static class Running extends Person {
        int runs(int x) { b(20); return super.runs(x) * 3; }
    }

    static class Standing extends Person {
        int sees(int x) { b(30); return super.sees(x) - a; }
    }

    static class Fallen extends Person {
        int falls(int x) { b(40); return super.falls(x + 1); }
    }

    static class Touching extends Running {
        int runs(int x) { b(50); return super.runs(x) ^ n; }

        int harms(int x) { b(51); return super.harms(x) + falls(n); }
    }

    static class New extends Running {
        int sees(int x) { b(60); return 0 - super.sees(x); }
    }

    static class Heaped extends Fallen {
        int falls(int x) { b(70); return super.falls(x) ^ 1; }

        int runs(int x) { b(71); return super.runs(x) - 5; }
    }

    static class Leaving extends Standing {
        int harms(int x) { b(80); return super.harms(x) * 2; }

        int sees(int x) { b(81); return super.sees(x) + runs(n); }
    }

    static class Beast extends Thing {
        int runs(int x) { b(90); return a - x; }

        int sees(int x) { b(91); return runs(x) * n; }

        int falls(int x) { b(92); return x | a; }

        int harms(int x) { b(93); return sees(x) - falls(n); }
    }

    static Person personOfKind(int kind) {
        return switch (kind) {
            case 1 -> new Running();
            case 2 -> new Standing();
            case 3 -> new Fallen();
            case 4 -> new Touching();
            case 5 -> new New();
            case 6 -> new Heaped();
            default -> new Leaving();
        };
    }

    static final Class<?>[] KINDS = {Person.class, Running.class, Standing.class, Fallen.class, Touching.class, New.class,
        Heaped.class, Leaving.class, Beast.class};
    static final Class<?>[] SORTS = {byte[].class, short[].class, int[].class, long[].class, boolean[].class};

    // ---- the object

    World w = new World();
    World keptWorld;
    StringBuilder tape = new StringBuilder();
    List<int[]> rows = new ArrayList<>();
    Object[] sheets = new Object[4];
    /** A row itself, or {0 person or 1 beast, number} as Integer[], or null. */
    Object[] shelves = new Object[4];
    List<Integer> trace = new ArrayList<>();

    static boolean in(int v, int least, int most) { return v >= least && v <= most; }

    int street(int n) {
        if (!in(n, 2, 30)) return -1;
        w.cells.clear();
        for (int i = 0; i < n; i++) w.cells.add(new Cell());
        for (Man m : w.men) if (m.cell >= n) m.cell = OUT;
        for (Bull b : w.bulls) if (b.cell >= n) b.cell = OUT;
        return n;
    }

    boolean isCell(int c) { return in(c, 0, w.cells.size() - 1); }

    boolean isMan(int p) { return in(p, 0, w.men.size() - 1); }

    int cell(int c, int what, int v) {
        if (!isCell(c)) return -1;
        Cell cell = w.cells.get(c);
        int was;
        if (what == 0 && in(v, 1, 9)) {
            was = cell.width;
            cell.width = v;
        } else if (what == 1 && in(v, 0, 4)) {
            was = cell.slip;
            cell.slip = v;
        } else if (what == 2 && in(v, 0, 1)) {
            was = cell.door;
            cell.door = v;
        } else {
            return -1;
        }
        return was;
    }

    int cellOf(int c, int what) {
        if (!isCell(c) || !in(what, 0, 5)) return -1;
        Cell cell = w.cells.get(c);
        return new int[] {cell.width, cell.slip, cell.door, w.crowd(c), w.lying(c), w.bullsIn(c)}[what];
    }

    int rule(int what, int v) {
        int was;
        if (what == 0 && in(v, 1, 9)) {
            was = w.sight;
            w.sight = v;
        } else if (what == 1 && in(v, 0, 9)) {
            was = w.rise;
            w.rise = v;
        } else if (what == 2 && in(v, 2, 9)) {
            was = w.heap;
            w.heap = v;
        } else {
            return -1;
        }
        return was;
    }

    int seed(int v) {
        int was = w.z;
        w.z = v;
        return was;
    }

    int person(int kind, int c, int pace) {
        if (!in(kind, 1, 7) || !isCell(c) || !in(pace, 1, 3)) return -1;
        if (w.men.size() == 20) return -2;
        w.men.add(new Man(kind, c, pace, 0));
        return w.men.size() - 1;
    }

    int personOf(int p, int what) {
        if (!isMan(p) || !in(what, 0, 4)) return -1;
        Man m = w.men.get(p);
        return new int[] {m.kind, m.cell, m.pace, m.hurts, m.cell == OUT ? OUT : w.near(m)}[what];
    }

    int beast(int c, int pace) {
        if (!isCell(c) || !in(pace, 1, 4)) return -1;
        if (w.bulls.size() == 6) return -2;
        w.bulls.add(new Bull(c, pace, false));
        return w.bulls.size() - 1;
    }

    int beastOf(int b, int what) {
        if (!in(b, 0, w.bulls.size() - 1) || !in(what, 0, 2)) return -1;
        Bull bull = w.bulls.get(b);
        return new int[] {bull.cell, bull.pace, bull.alone ? 1 : 0}[what];
    }

    int moves(int p, int c, int kind) {
        if (!isMan(p) || !isCell(c) || !in(kind, 1, 7)) return -1;
        Man m = w.men.get(p);
        int was = m.kind;
        m.cell = c;
        m.kind = kind;
        return was;
    }

    int feed(long eight, int n) {
        if (!in(n, 1, 8)) return -1;
        if (tape.length() + n > 200) return -2;
        for (int i = 0; i < n; i++) {
            tape.append((char) (eight & 255));
            eight >>>= 8;
        }
        return tape.length();
    }

    int read() {
        Text text = new Text(tape.toString());
        tape.setLength(0);
        try {
            w.laws = text.text();
            return w.laws.size();
        } catch (Fault fault) {
            return -100 - fault.place;
        }
    }

    int says(int p) {
        if (!isMan(p)) return -1;
        return w.men.get(p).cell == OUT ? -9 : w.clause(w.men.get(p));
    }

    int fact(int p, int what) {
        if (!isMan(p) || !in(what, 0, 5)) return -1;
        Man m = w.men.get(p);
        if (m.cell == OUT) return -3;
        return new int[] {w.near(m), w.crowd(m.cell), w.ahead(m), m.cell, w.tick, w.lone()}[what];
    }

    static int sum(List<Harm> harms) { return harms.stream().mapToInt(Harm::by).sum(); }

    int run(int n) { return in(n, 0, 60) ? sum(w.tenths(n)) : -1; }

    int morning(int what) {
        return switch (what) {
            case 0 -> w.tick;
            case 1 -> w.men.stream().mapToInt(m -> m.hurts).sum();
            case 2 -> (int) w.men.stream().filter(m -> m.cell == OUT).count();
            case 3 -> w.heaps();
            default -> -1;
        };
    }

    static int hurtsOf(List<Harm> harms, int p) { return harms.stream().filter(h -> h.person() == p).mapToInt(Harm::by).sum(); }

    int odds(int p, int n, int part) {
        if (!isMan(p) || !in(n, 0, 60) || !in(part, 0, 1)) return -1;
        int hits = 0;
        for (int z = 1; z <= 16; z++) {
            World t = w.copy();
            t.z = z;
            if (hurtsOf(t.tenths(n), p) > 0) hits++;
        }
        int gcd = java.math.BigInteger.valueOf(hits).gcd(java.math.BigInteger.valueOf(16)).intValue();
        return part == 0 ? hits / gcd : 16 / gcd;
    }

    int begin(int p, int n) {
        if (!isMan(p) || !in(n, 0, 60)) return -1;
        int[] hurts = new int[w.cells.size()];
        for (int c = 0; c < hurts.length; c++) {
            World t = w.copy();
            t.men.get(p).cell = c;
            hurts[c] = hurtsOf(t.tenths(n), p);
        }
        int least = Arrays.stream(hurts).min().getAsInt();
        int c = 0;
        while (hurts[c] != least) c++;
        return c;
    }

    int door(int n) {
        if (!in(n, 0, 60)) return -1;
        int least = harm(n), best = -3;
        for (int c = w.cells.size() - 1; c >= 0; c--) {
            World t = w.copy();
            if (t.cells.get(c).door == 1) continue;
            t.cells.get(c).door = 1;
            int h = sum(t.tenths(n));
            if (h < least || h == least && best != -3) {
                least = h;
                best = c;
            }
        }
        return best;
    }

    int limit(int n) {
        if (!in(n, 0, 60)) return -1;
        int best = 0;
        for (int m = 1; m <= w.men.size(); m++) {
            World t = w.copy();
            for (int p = m; p < w.men.size(); p++) t.men.get(p).cell = OUT;
            t.tenths(n);
            if (t.heaps() == 0) best = m;
        }
        return best;
    }

    int law(int k, int n) {
        if (!in(k, 0, w.laws.size() - 1) || !in(n, 0, 60)) return -1;
        World t = w.copy();
        t.laws.remove(k);
        return sum(t.tenths(n)) - harm(n) + 1000;
    }

    int together(int n) {
        if (!in(n, 0, 60)) return -1;
        World t = w.copy();
        int found = 0;
        for (int i = 0; i < n; i++) {
            t.tenths(1);
            if (t.lone() == 0) found++;
        }
        return found;
    }

    int harm(int n) { return in(n, 0, 60) ? sum(w.copy().tenths(n)) : -1; }

    int prove(int n) {
        if (!in(n, 0, 60)) return -1;
        rows.clear();
        for (Harm h : w.copy().tenths(n)) if (rows.size() < 24) rows.add(new int[] {h.tenth(), h.person(), h.cell()});
        return rows.size();
    }

    int row(int i, int what) { return in(i, 0, rows.size() - 1) && in(what, 0, 2) ? rows.get(i)[what] : -9; }

    int alterRow(int i, int what, int v) {
        int was = row(i, what);
        if (in(i, 0, rows.size() - 1) && in(what, 0, 2)) rows.get(i)[what] = v;
        return was;
    }

    int judge() {
        List<Harm> harms = w.copy().tenths(60);
        for (int i = 0; i < rows.size(); i++) {
            if (i >= harms.size()) return i + 1;
            Harm h = harms.get(i);
            if (!Arrays.equals(rows.get(i), new int[] {h.tenth(), h.person(), h.cell()})) return i + 1;
        }
        return 0;
    }

    int sheet(int sheet, int sort, int n) {
        if (!in(sheet, 0, 3) || !in(sort, -1, 4) || sort != -1 && n > 40) return -1;
        try {
            sheets[sheet] = sort == -1 ? null : java.lang.reflect.Array.newInstance(SORTS[sort].getComponentType(), n);
            return 1;
        } catch (NegativeArraySizeException e) {
            return -14;
        }
    }

    int put(int sheet, int i, int v) {
        if (!in(sheet, 0, 3)) return -1;
        Object row = sheets[sheet];
        if (row == null) return -11;
        try {
            if (row instanceof byte[] bytes) bytes[i] = (byte) v;
            else if (row instanceof short[] shorts) shorts[i] = (short) v;
            else if (row instanceof int[] ints) ints[i] = v;
            else if (row instanceof long[] longs) longs[i] = v;
            else ((boolean[]) row)[i] = v != 0;
            return 1;
        } catch (ArrayIndexOutOfBoundsException e) {
            return -12;
        }
    }

    int item(int sheet, int sort, int i) {
        if (!in(sheet, 0, 3) || !in(sort, 0, 4)) return -1;
        Object row = sheets[sheet];
        try {
            return switch (sort) {
                case 0 -> ((byte[]) row)[i];
                case 1 -> ((short[]) row)[i];
                case 2 -> ((int[]) row)[i];
                case 3 -> (int) ((long[]) row)[i];
                default -> ((boolean[]) row)[i] ? 1 : 0;
            };
        } catch (ClassCastException e) {
            return -13;
        } catch (NullPointerException e) {
            return -11;
        } catch (ArrayIndexOutOfBoundsException e) {
            return -12;
        }
    }

    int widths(int sheet, int i, int n) {
        if (!in(sheet, 0, 3) || !in(n, 0, 30)) return -1;
        if (sheets[sheet] == null) return -11;
        int came = 0;
        try {
            byte[] bytes = (byte[]) sheets[sheet];
            for (int c = 0; c < n; c++) if (cell(c, 0, bytes[i + c]) >= 0) came++;
            return came;
        } catch (ClassCastException e) {
            return -13;
        } catch (ArrayIndexOutOfBoundsException e) {
            return -12;
        }
    }

    int shelf(int shelf, int what, int n) {
        if (!in(shelf, 0, 3) || !in(what, 0, 3)) return -1;
        if (what == 0 && !isMan(n) || what == 1 && !in(n, 0, w.bulls.size() - 1) || what == 2 && !in(n, 0, 3)) return -1;
        shelves[shelf] = what == 3 ? null : what == 2 ? sheets[n] : new Integer[] {what, n};
        return 1;
    }

    /** A Thing, a row, or null. */
    Object onShelf(int shelf) {
        if (!(shelves[shelf] instanceof Integer[] held)) return shelves[shelf];
        int n = held[1];
        Thing thing;
        if (held[0] == 0) {
            if (!isMan(n)) return null;
            thing = personOfKind(w.men.get(n).kind);
            thing.a = w.men.get(n).pace;
        } else {
            if (n >= w.bulls.size()) return null;
            thing = new Beast();
            thing.a = w.bulls.get(n).pace;
        }
        thing.n = n;
        thing.trace = new ArrayList<>();
        return thing;
    }

    int taken(int shelf, int as) {
        if (!in(shelf, 0, 3) || !in(as, 0, 8) && !in(as, 10, 14)) return -1;
        Object held = onShelf(shelf);
        if (held == null) return -11;
        Class<?> wanted = as < 10 ? KINDS[as] : SORTS[as - 10];
        if (!wanted.isInstance(held)) return -13;
        return held instanceof Thing thing ? thing.n : java.lang.reflect.Array.getLength(held);
    }

    int act(int shelf, int act, int x) {
        trace = new ArrayList<>();
        if (!in(shelf, 0, 3) || !in(act, 0, 3) || !(onShelf(shelf) instanceof Thing thing)) return 0;
        trace = thing.trace;
        try {
            return switch (act) {
                case 0 -> thing.runs(x);
                case 1 -> thing.sees(x);
                case 2 -> thing.falls(x);
                default -> thing.harms(x);
            };
        } catch (ArithmeticException e) {
            return -15;
        }
    }

    int trace(int i) { return in(i, 0, many(6) - 1) ? trace.get(i) : -3; }

    int many(int what) {
        return switch (what) {
            case 0 -> w.cells.size();
            case 1 -> w.men.size();
            case 2 -> w.bulls.size();
            case 3 -> w.laws.size();
            case 4 -> rows.size();
            case 5 -> tape.length();
            case 6 -> Math.min(30, trace.size());
            default -> -1;
        };
    }

    int keep() {
        keptWorld = w.copy();
        return 1;
    }

    int again() {
        if (keptWorld == null) return -3;
        w = keptWorld.copy();
        return 1;
    }
}
