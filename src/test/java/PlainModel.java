import java.math.BigInteger;
import java.util.ArrayDeque;
import java.util.ArrayList;
import java.util.Deque;
import java.util.HashMap;
import java.util.List;
import java.util.Map;
import java.util.regex.Matcher;
import java.util.regex.Pattern;

/** The document read a second time, with exact fractions, copies of everything, and no care for speed. */
final class PlainModel {
    static final int NONE = -1, UNKNOWN = -2000000001, OUTSIDE = -2000000002, NOT = -2000000003, FULL = -2000000004,
            NULL = -2000000011, KEY = -2000000012, ROOM = -2000000013;

    record Fraction(BigInteger above, BigInteger below) {
        static Fraction of(long above, long below) {
            return new Fraction(BigInteger.valueOf(above), BigInteger.valueOf(below)).lowest();
        }

        private Fraction lowest() {
            BigInteger g = above.gcd(below);
            if (below.signum() < 0) g = g.negate();
            return new Fraction(above.divide(g), below.divide(g));
        }

        Fraction plus(Fraction f) {
            return new Fraction(above.multiply(f.below).add(f.above.multiply(below)), below.multiply(f.below)).lowest();
        }

        Fraction minus(Fraction f) {
            return plus(new Fraction(f.above.negate(), f.below));
        }

        Fraction times(Fraction f) {
            return new Fraction(above.multiply(f.above), below.multiply(f.below)).lowest();
        }

        Fraction by(Fraction f) {
            return new Fraction(above.multiply(f.below), below.multiply(f.above)).lowest();
        }

        int compare(Fraction f) {
            return minus(f).above.signum();
        }

        int cut() {
            return above.divide(below).intValueExact();
        }

        long part(int part) {
            return (part == 0 ? above : below).longValueExact();
        }
    }

    record Stuff(String word, int k, int c) { }

    record State(List<Integer> heats, int left, int right, int t, int in, int out, int steps) {
        State withHeats(List<Integer> next) {
            return new State(next, left, right, t, in, out, steps);
        }

        int all() {
            return heats.stream().mapToInt(Integer::intValue).sum();
        }
    }

    record Told(List<Stuff> stuffs, List<Integer> cells, State state) { }

    static final class Fault extends RuntimeException {
        private static final long serialVersionUID = 1L;
        final int place;

        Fault(int place) {
            super("at " + place);
            this.place = place;
        }
    }

    private final StringBuilder text = new StringBuilder();
    private Told told = new Told(List.of(), List.of(), new State(List.of(), 0, 0, 40, 0, 0, 0));
    private final Deque<State> undo = new ArrayDeque<>();
    private final State[] kept = new State[2];
    private final List<Map<List<Integer>, Integer>> pages = new ArrayList<>(java.util.Arrays.asList(null, null, null));

    // ---- the text

    int write(int letter) {
        if (letter < 0 || letter > 255) return OUTSIDE;
        if (text.length() == 200) return FULL;
        text.append((char) letter);
        return text.length();
    }

    int erase() {
        int had = text.length();
        text.setLength(0);
        return had;
    }

    private static final class Tokens {
        final List<String> words = new ArrayList<>();
        final List<Integer> places = new ArrayList<>();
        int next = 0;

        Tokens(String text) {
            Matcher m = Pattern.compile("[a-z]+|[0-9]+|[^ ]", Pattern.DOTALL).matcher(text);
            while (m.find()) {
                words.add(m.group());
                places.add(m.start());
            }
            words.add("");
            places.add(text.length());
        }

        String now() {
            return words.get(next);
        }

        boolean atEnd() {
            return next == words.size() - 1;
        }

        Fault fault() {
            return new Fault(places.get(next));
        }

        void must(boolean stands) {
            if (!stands) throw fault();
        }

        String take() {
            return words.get(next++);
        }

        int number(int least, int most) {
            must(now().matches("[0-9]{1,4}"));
            int number = Integer.parseInt(now());
            must(number >= least && number <= most);
            next++;
            return number;
        }
    }

    private int clauses;

    private Told read() {
        Tokens tokens = new Tokens(text.toString());
        Told so = told;
        for (clauses = 1; ; clauses++) {
            so = clause(tokens, so);
            if (tokens.atEnd()) return so;
            tokens.must(tokens.now().equals(";") && clauses < 24);
            tokens.take();
        }
    }

    private static Told clause(Tokens tokens, Told so) {
        State s = so.state;
        tokens.must(List.of("wall", "stuff", "layer", "air", "heat").contains(tokens.now()));
        tokens.must(!tokens.now().equals("stuff") || so.stuffs.size() < 6);
        switch (tokens.take()) {
            case "wall":
                return new Told(List.of(), List.of(), new State(List.of(), 0, 0, tokens.number(1, 999), 0, 0, 0));
            case "stuff": {
                String word = tokens.now();
                tokens.must(word.matches("[a-z]{1,7}") && so.stuffs.stream().noneMatch(f -> f.word.equals(word)));
                tokens.take();
                int k = tokens.number(1, 20);
                int c = tokens.number(1, 20);
                List<Stuff> stuffs = new ArrayList<>(so.stuffs);
                stuffs.add(new Stuff(word, k, c));
                return new Told(stuffs, so.cells, s);
            }
            case "layer": {
                int stuff = so.stuffs.stream().map(Stuff::word).toList().indexOf(tokens.now());
                tokens.must(stuff >= 0);
                tokens.take();
                int n = tokens.number(1, 9);
                if (so.cells.size() + n > 10) {
                    tokens.next--;
                    throw tokens.fault();
                }
                List<Integer> cells = new ArrayList<>(so.cells);
                List<Integer> heats = new ArrayList<>(s.heats);
                for (int i = 0; i < n; i++) {
                    cells.add(stuff);
                    heats.add(0);
                }
                return new Told(so.stuffs, cells, s.withHeats(heats));
            }
            case "air": {
                int l = tokens.number(0, 999);
                int r = tokens.number(0, 999);
                return new Told(so.stuffs, so.cells, new State(s.heats, l, r, s.t, s.in, s.out, s.steps));
            }
            default: {
                int cell = tokens.number(0, so.cells.size() - 1);
                List<Integer> heats = new ArrayList<>(s.heats);
                heats.set(cell, tokens.number(0, 9999));
                return new Told(so.stuffs, so.cells, s.withHeats(heats));
            }
        }
    }

    int fault() {
        try {
            read();
            return NONE;
        } catch (Fault f) {
            return f.place;
        }
    }

    int wall() {
        if (fault() != NONE) return NOT;
        Told so = read();
        State s = so.state;
        told = new Told(so.stuffs, so.cells, new State(s.heats, s.left, s.right, s.t, 0, 0, 0));
        undo.clear();
        kept[0] = null;
        kept[1] = null;
        for (int i = 0; i < 3; i++) pages.set(i, null);
        text.setLength(0);
        return clauses;
    }

    int find() {
        return told.stuffs.stream().map(Stuff::word).toList().indexOf(text.toString().replace(" ", ""));
    }

    // ---- the wall

    private boolean noStuff(int stuff) {
        return stuff < 0 || stuff >= told.stuffs.size();
    }

    private boolean noCell(int cell) {
        return cell < 0 || cell >= told.cells.size();
    }

    private Stuff stuffOf(int cell) {
        return told.stuffs.get(told.cells.get(cell));
    }

    private int n() {
        return told.cells.size();
    }

    private Fraction degrees(State s, int place) {
        if (place < 0) return Fraction.of(s.left, 1);
        if (place == n()) return Fraction.of(s.right, 1);
        return Fraction.of(s.heats.get(place), stuffOf(place).c);
    }

    private List<Integer> passesOfCells() {
        List<Integer> ks = new ArrayList<>();
        for (int i = 0; i < n(); i++) ks.add(stuffOf(i).k);
        return ks;
    }

    private static Fraction passes(List<Integer> ks, int i) {
        if (i == 0) return Fraction.of(2L * ks.get(0), 1);
        if (i == ks.size()) return Fraction.of(2L * ks.get(i - 1), 1);
        return Fraction.of(2L * ks.get(i - 1) * ks.get(i), ks.get(i - 1) + ks.get(i));
    }

    private static Fraction resists(List<Integer> ks, int from) {
        Fraction all = Fraction.of(0, 1);
        for (int i = from; i <= ks.size(); i++) all = all.plus(Fraction.of(1, 1).by(passes(ks, i)));
        return all;
    }

    private int flow(State s, int i) {
        Fraction falls = degrees(s, i - 1).minus(degrees(s, i));
        return falls.times(passes(passesOfCells(), i)).by(Fraction.of(s.t, 1)).cut();
    }

    /** The state behind a step; null, if it is not done. */
    private State next(State s) {
        List<Integer> heats = new ArrayList<>();
        for (int i = 0; i < n(); i++) {
            int heat = s.heats.get(i) + flow(s, i) - flow(s, i + 1);
            if (heat < 0 || heat > 20000) return null;
            heats.add(heat);
        }
        return new State(heats, s.left, s.right, s.t, s.in + flow(s, 0), s.out + flow(s, n()), s.steps + 1);
    }

    private int safe() {
        for (int t = 1; ; t++) {
            boolean safe = true;
            for (int i = 0; i < n(); i++) {
                Fraction both = passes(passesOfCells(), i).plus(passes(passesOfCells(), i + 1));
                safe &= both.compare(Fraction.of((long) t * stuffOf(i).c, 1)) <= 0;
            }
            if (safe) return t;
        }
    }

    int stuff(int stuff, int what) {
        if (noStuff(stuff)) return UNKNOWN;
        Stuff f = told.stuffs.get(stuff);
        if (what == 0) return f.k;
        if (what == 1) return f.c;
        if (what == 2) return f.word.length();
        if (what != 3) return OUTSIDE;
        int bits = 0;
        for (int i = 0; i < n(); i++) if (told.cells.get(i) == stuff) bits += 1 << i;
        return bits;
    }

    int cell(int cell, int what) {
        if (noCell(cell)) return UNKNOWN;
        if (what == 0) return told.cells.get(cell);
        if (what == 1) return told.state.heats.get(cell);
        if (what == 2 || what == 3) return (int) degrees(told.state, cell).part(what - 2);
        return OUTSIDE;
    }

    long rest(int cell, int part) {
        if (noCell(cell)) return UNKNOWN;
        if (part != 0 && part != 1) return OUTSIDE;
        Fraction share = resists(passesOfCells(), cell + 1).by(resists(passesOfCells(), 0));
        State s = told.state;
        return Fraction.of(s.right, 1).plus(Fraction.of(s.left - s.right, 1).times(share)).part(part);
    }

    // ---- what is done

    private void become(State s) {
        told = new Told(told.stuffs, told.cells, s);
    }

    private void done(State s) {
        undo.push(told.state);
        if (undo.size() > 8) undo.removeLast();
        become(s);
    }

    int step(int n) {
        if (n < 1 || n > 50) return OUTSIDE;
        if (n() == 0) return NOT;
        State s = told.state;
        int steps = 0;
        while (steps < n && next(s) != null) {
            s = next(s);
            steps++;
        }
        done(s);
        return steps;
    }

    int heat(int cell, int v) {
        if (noCell(cell)) return UNKNOWN;
        if (v < -9999 || v > 9999) return OUTSIDE;
        int heat = told.state.heats.get(cell) + v;
        if (heat < 0 || heat > 20000) return NOT;
        List<Integer> heats = new ArrayList<>(told.state.heats);
        heats.set(cell, heat);
        done(told.state.withHeats(heats));
        return heat;
    }

    int air(int side, int g) {
        if (side < 0 || side > 1 || g < 0 || g > 999) return OUTSIDE;
        State s = told.state;
        done(new State(s.heats, side == 0 ? g : s.left, side == 1 ? g : s.right, s.t, s.in, s.out, s.steps));
        return side == 0 ? s.left : s.right;
    }

    int pace(int t) {
        if (t < 1 || t > 999) return OUTSIDE;
        State s = told.state;
        done(new State(s.heats, s.left, s.right, t, s.in, s.out, s.steps));
        return safe();
    }

    int undo() {
        if (undo.isEmpty()) return NOT;
        become(undo.pop());
        return undo.size();
    }

    int keep(int k) {
        if (k < 0 || k > 1) return UNKNOWN;
        kept[k] = told.state;
        return told.state.all();
    }

    int back(int k) {
        if (k < 0 || k > 1) return UNKNOWN;
        if (kept[k] == null) return NOT;
        become(kept[k]);
        undo.clear();
        return told.state.all();
    }

    // ---- what is found

    int flow(int i) {
        if (i < 0 || i > n()) return OUTSIDE;
        return n() == 0 ? NOT : flow(told.state, i);
    }

    int until(int cell, int g) {
        if (noCell(cell)) return UNKNOWN;
        if (g < 0 || g > 999) return OUTSIDE;
        State s = told.state;
        for (int steps = 0; steps <= 200 && s != null; steps++) {
            if (degrees(s, cell).compare(Fraction.of(g, 1)) >= 0) return steps;
            s = next(s);
        }
        return NONE;
    }

    int resists(int part) {
        if (part != 0 && part != 1) return OUTSIDE;
        return n() == 0 ? NOT : (int) resists(passesOfCells(), 0).part(part);
    }

    int swapped(int cell, int stuff, int part) {
        if (noCell(cell) || noStuff(stuff)) return UNKNOWN;
        if (part != 0 && part != 1) return OUTSIDE;
        List<Integer> ks = passesOfCells();
        ks.set(cell, told.stuffs.get(stuff).k);
        return (int) resists(ks, 0).part(part);
    }

    int gain(int cell) {
        if (noCell(cell)) return UNKNOWN;
        State s = next(told.state);
        return s == null ? NOT : s.heats.get(cell) - told.state.heats.get(cell);
    }

    // ---- pages

    private static boolean noPage(int page) {
        return page < 0 || page > 2;
    }

    private static boolean noKey(int letter, int number) {
        return letter < 0 || letter > 25 || number < -99 || number > 99;
    }

    int page(int page) {
        if (noPage(page)) return UNKNOWN;
        pages.set(page, new HashMap<>());
        return 0;
    }

    int put(int page, int letter, int number, int value) {
        if (noPage(page)) return UNKNOWN;
        if (noKey(letter, number) || value < -999 || value > 999) return OUTSIDE;
        Map<List<Integer>, Integer> book = pages.get(page);
        if (book == null) return NULL;
        if (book.size() == 8 && !book.containsKey(List.of(letter, number))) return ROOM;
        Integer was = book.put(List.of(letter, number), value);
        return was == null ? 0 : was;
    }

    int get(int page, int letter, int number) {
        if (noPage(page)) return UNKNOWN;
        if (noKey(letter, number)) return OUTSIDE;
        return pages.get(page) == null ? NULL : pages.get(page).getOrDefault(List.of(letter, number), KEY);
    }

    int strike(int page, int letter, int number) {
        int was = get(page, letter, number);
        if (was >= -999) pages.get(page).remove(List.of(letter, number));
        return was;
    }

    int common(int page, int other) {
        if (noPage(page) || noPage(other)) return UNKNOWN;
        if (pages.get(page) == null || pages.get(other) == null) return NULL;
        return (int) pages.get(page).entrySet().stream().filter(pages.get(other).entrySet()::contains).count();
    }

    int sum(int page, int what) {
        if (noPage(page)) return UNKNOWN;
        if (what < 0 || what > 2) return OUTSIDE;
        if (pages.get(page) == null) return NULL;
        int all = 0;
        for (Map.Entry<List<Integer>, Integer> entry : pages.get(page).entrySet()) {
            all += what == 0 ? entry.getValue() : what == 1 ? 1 : entry.getKey().get(1);
        }
        return all;
    }

    int drop(int page) {
        if (noPage(page)) return UNKNOWN;
        if (pages.get(page) == null) return NULL;
        int had = pages.get(page).size();
        pages.set(page, null);
        return had;
    }

    int count(int what) {
        State s = told.state;
        switch (what) {
            case 0: return told.stuffs.size();
            case 1: return n();
            case 2: return s.left;
            case 3: return s.right;
            case 4: return s.t;
            case 5: return safe();
            case 6: return s.all();
            case 7: return s.in;
            case 8: return s.out;
            case 9: return mostOf(1);
            case 10: return mostOf(-1);
            case 11: return same();
            case 12: return s.steps;
            case 13: return pages.stream().mapToInt(book -> book == null ? 0 : book.size()).sum();
            case 14: return undo.size();
            case 15: return text.length();
            default: return OUTSIDE;
        }
    }

    private int mostOf(int sign) {
        int most = NONE;
        for (int i = n() - 1; i >= 0; i--) {
            if (most == NONE || sign * degrees(told.state, i).compare(degrees(told.state, most)) >= 0) most = i;
        }
        return most;
    }

    private int same() {
        Map<List<Integer>, Integer> alike = new HashMap<>();
        for (int i = 0; i < n(); i++) alike.merge(List.of(told.cells.get(i), told.state.heats.get(i)), 1, Integer::sum);
        return alike.values().stream().mapToInt(many -> many * (many - 1) / 2).sum();
    }
}
