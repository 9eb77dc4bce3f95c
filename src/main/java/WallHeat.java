/** A wall in layers, and the heat in it. The document's promises are named by their numbers. */
public final class WallHeat {
    public static final int NONE = -1, UNKNOWN = -2000000001, OUTSIDE = -2000000002, NOT = -2000000003, FULL = -2000000004, NULL = -2000000011, KEY = -2000000012, ROOM = -2000000013;

    private static final int MOST_LETTERS = 200, MOST_CLAUSES = 24, MOST_DIGITS = 4, MOST_WORD = 7;
    private static final int MOST_STUFFS = 6, MOST_CELLS = 10, MOST_LAYER = 9, MOST_OF_STUFF = 20;
    private static final int MOST_HEAT = 20000, MOST_TOLD_HEAT = 9999, MOST_DEGREES = 999, MOST_PACE = 999, FIRST_PACE = 40;
    private static final int MOST_STEPS = 50, MOST_FORETOLD = 200, MOST_UNDONE = 8, MOST_KEPT = 2;
    private static final int MOST_PAGES = 3, MOST_KEYS = 8, LAST_KEY_LETTER = 25, MOST_KEY_NUMBER = 99, MOST_VALUE = 999;
    private static final int BLANK = 32, SEMICOLON = 59;
    private static final int END = 0, LETTERS = 1, DIGITS = 2, SIGN = 3;

    /** Each of 1 .. 20 divides it, so what resists can be counted in whole parts of it. */
    private static final long WHOLE = 232792560L;

    private final Reader reader;
    private final Wall standing;
    private final Warmth ahead;
    private final Past past;
    private final Book[] pages;

    /** Promise 1. */
    public WallHeat() {
        reader = new Reader();
        standing = new Wall();
        ahead = new Warmth();
        past = new Past();
        pages = new Book[MOST_PAGES];
        for (int i = 0; i < pages.length; i++) pages[i] = new Book();
    }

    // ---- what is told

    /** Promise 2. */
    public int write(int letter) {
        if (letter < 0 || letter > 255) return OUTSIDE;
        if (reader.text.many >= MOST_LETTERS) return FULL;
        reader.text.add(letter);
        return reader.text.many;
    }

    /** Promise 3. */
    public int erase() {
        int had = reader.text.many;
        reader.text.many = 0;
        return had;
    }

    /** Promise 4. */
    public int fault() {
        return reader.firstFault(standing);
    }

    /** Promise 5. */
    public int wall() {
        if (reader.firstFault(standing) != NONE) return NOT;
        standing.become(reader.drawn);
        standing.now.forget();
        past.forget();
        for (int i = 0; i < MOST_PAGES; i++) missPage(i);
        reader.text.many = 0;
        return reader.clauses;
    }

    /** Promise 6. */
    public int find() {
        return standing.stuffNamed(reader.text, 0, reader.text.many);
    }

    /** Promise 7. */
    public int stuff(int stuff, int what) {
        if (!standing.isStuff(stuff)) return UNKNOWN;
        switch (what) {
            case 0: return at(standing.passes, stuff);
            case 1: return at(standing.holds, stuff);
            case 2: return at(standing.lengths, stuff);
            case 3: return standing.cellsOf(stuff);
            default: return OUTSIDE;
        }
    }

    /** Promise 8. */
    public int cell(int cell, int what) {
        if (!standing.isCell(cell)) return UNKNOWN;
        int heat = at(standing.now.heats, cell);
        switch (what) {
            case 0: return at(standing.stuffOf, cell);
            case 1: return heat;
            case 2: return (int) lowest(heat, standing.holdsAt(cell), 0);
            case 3: return (int) lowest(heat, standing.holdsAt(cell), 1);
            default: return OUTSIDE;
        }
    }

    /** Promise 9. */
    public long rest(int cell, int part) {
        if (!standing.isCell(cell)) return UNKNOWN;
        if (!isPart(part)) return OUTSIDE;
        long right = standing.resistsRightOf(cell);
        long all = standing.resistsInAll();
        long above = standing.now.right * (all - right) + standing.now.left * right;
        return lowest(above, all, part);
    }

    // ---- what is done

    /** Promise 10. */
    public int step(int n) {
        if (n < 1 || n > MOST_STEPS) return OUTSIDE;
        if (standing.cells == 0) return NOT;
        past.remember(standing.now);
        int done = 0;
        while (done < n && standing.advance(standing.now)) done++;
        return done;
    }

    /** Promise 11. */
    public int heat(int cell, int v) {
        if (!standing.isCell(cell)) return UNKNOWN;
        if (v < -MOST_TOLD_HEAT || v > MOST_TOLD_HEAT) return OUTSIDE;
        int heat = at(standing.now.heats, cell) + v;
        if (!isHeat(heat)) return NOT;
        past.remember(standing.now);
        set(standing.now.heats, cell, heat);
        return heat;
    }

    /** Promise 12. */
    public int air(int side, int g) {
        if (side < 0 || side > 1 || !isDegrees(g)) return OUTSIDE;
        past.remember(standing.now);
        int was = side == 0 ? standing.now.left : standing.now.right;
        if (side == 0) standing.now.left = g;
        else standing.now.right = g;
        return was;
    }

    /** Promise 13. */
    public int pace(int t) {
        if (t < 1 || t > MOST_PACE) return OUTSIDE;
        past.remember(standing.now);
        standing.now.pace = t;
        return standing.safe();
    }

    /** Promise 14. */
    public int undo() {
        if (past.undoable == 0) return NOT;
        past.takeBack(standing.now);
        return past.undoable;
    }

    /** Promise 15. */
    public int keep(int k) {
        if (k < 0 || k >= MOST_KEPT) return UNKNOWN;
        past.store(k, standing.now);
        return standing.now.allHeat(standing.cells);
    }

    /** Promise 16. */
    public int back(int k) {
        if (k < 0 || k >= MOST_KEPT) return UNKNOWN;
        if (!past.isStored(k)) return NOT;
        past.restore(k, standing.now);
        return standing.now.allHeat(standing.cells);
    }

    // ---- what is found

    /** Promise 17. */
    public int flow(int i) {
        if (i < 0 || i > standing.cells) return OUTSIDE;
        if (standing.cells == 0) return NOT;
        return standing.flowAt(standing.now, i);
    }

    /** Promise 18. */
    public int until(int cell, int g) {
        if (!standing.isCell(cell)) return UNKNOWN;
        if (!isDegrees(g)) return OUTSIDE;
        int wanted = g * standing.holdsAt(cell);
        ahead.become(standing.now);
        for (int steps = 0; steps <= MOST_FORETOLD; steps++) {
            if (at(ahead.heats, cell) >= wanted) return steps;
            if (!standing.advance(ahead)) return NONE;
        }
        return NONE;
    }

    /** Promise 19. */
    public int resists(int part) {
        if (!isPart(part)) return OUTSIDE;
        if (standing.cells == 0) return NOT;
        return (int) lowest(standing.resistsInAll(), 2 * WHOLE, part);
    }

    /** Promise 20. */
    public int swapped(int cell, int stuff, int part) {
        if (!standing.isCell(cell) || !standing.isStuff(stuff)) return UNKNOWN;
        if (!isPart(part)) return OUTSIDE;
        long less = 2 * halfResists(standing.passesAt(cell));
        long more = 2 * halfResists(at(standing.passes, stuff));
        return (int) lowest(standing.resistsInAll() - less + more, 2 * WHOLE, part);
    }

    /** Promise 21. */
    public int gain(int cell) {
        if (!standing.isCell(cell)) return UNKNOWN;
        ahead.become(standing.now);
        if (!standing.advance(ahead)) return NOT;
        return at(ahead.heats, cell) - at(standing.now.heats, cell);
    }

    // ---- pages

    /** Promise 22. */
    public int page(int page) {
        Book book = bookAt(page);
        if (book == null) return UNKNOWN;
        book.there = true;
        book.keys = 0;
        return 0;
    }

    /** Promise 23. */
    public int put(int page, int letter, int number, int value) {
        Book book = bookAt(page);
        if (book == null) return UNKNOWN;
        if (!isKey(letter, number) || value < -MOST_VALUE || value > MOST_VALUE) return OUTSIDE;
        if (!book.there) return NULL;
        int place = book.placeOf(letter, number);
        if (place == NONE && book.keys >= MOST_KEYS) return ROOM;
        if (place == NONE) return book.enter(letter, number, value);
        int was = at(book.values, place);
        set(book.values, place, value);
        return was;
    }

    /** Promise 24. */
    public int get(int page, int letter, int number) {
        Book book = bookAt(page);
        if (book == null) return UNKNOWN;
        if (!isKey(letter, number)) return OUTSIDE;
        if (!book.there) return NULL;
        int place = book.placeOf(letter, number);
        return place == NONE ? KEY : at(book.values, place);
    }

    /** Promise 25. */
    public int strike(int page, int letter, int number) {
        Book book = bookAt(page);
        if (book == null) return UNKNOWN;
        if (!isKey(letter, number)) return OUTSIDE;
        if (!book.there) return NULL;
        int place = book.placeOf(letter, number);
        return place == NONE ? KEY : book.remove(place);
    }

    /** Promise 26. */
    public int common(int page, int other) {
        Book one = bookAt(page);
        Book two = bookAt(other);
        if (one == null || two == null) return UNKNOWN;
        if (!one.there || !two.there) return NULL;
        return one.alikeWith(two);
    }

    /** Promise 27. */
    public int sum(int page, int what) {
        Book book = bookAt(page);
        if (book == null) return UNKNOWN;
        if (what < 0 || what > 2) return OUTSIDE;
        if (!book.there) return NULL;
        if (what == 1) return book.keys;
        return total(what == 0 ? book.values : book.numbers, book.keys);
    }

    /** Promise 28. */
    public int drop(int page) {
        Book book = bookAt(page);
        if (book == null) return UNKNOWN;
        if (!book.there) return NULL;
        int had = book.keys;
        missPage(page);
        return had;
    }

    /** Promise 29. */
    public int count(int what) {
        switch (what) {
            case 0: return standing.stuffs;
            case 1: return standing.cells;
            case 2: return standing.now.left;
            case 3: return standing.now.right;
            case 4: return standing.now.pace;
            case 5: return standing.safe();
            case 6: return standing.now.allHeat(standing.cells);
            case 7: return standing.now.in;
            case 8: return standing.now.out;
            case 9: return standing.mostOf(1);
            case 10: return standing.mostOf(-1);
            case 11: return standing.alikePairs();
            case 12: return standing.now.steps;
            case 13: return keysOfAllPages();
            case 14: return past.undoable;
            case 15: return reader.text.many;
            default: return OUTSIDE;
        }
    }

    private Book bookAt(int page) {
        return page >= 0 && page < pages.length ? pages[page] : null;
    }

    private void missPage(int page) {
        Book book = bookAt(page);
        if (book == null) return;
        book.there = false;
        book.keys = 0;
    }

    private int keysOfAllPages() {
        int keys = 0;
        for (int i = 0; i < MOST_PAGES; i++) {
            Book book = bookAt(i);
            if (book != null) keys += book.keys;
        }
        return keys;
    }

    private static boolean isPart(int part) {
        return part == 0 || part == 1;
    }

    private static boolean isHeat(int heat) {
        return heat >= 0 && heat <= MOST_HEAT;
    }

    private static boolean isDegrees(int g) {
        return g >= 0 && g <= MOST_DEGREES;
    }

    private static boolean isKey(int letter, int number) {
        return letter >= 0 && letter <= LAST_KEY_LETTER && number >= -MOST_KEY_NUMBER && number <= MOST_KEY_NUMBER;
    }

    /** All rows are read here, so that no index is used untested. */
    private static int at(int[] row, int i) {
        return row != null && i >= 0 && i < row.length ? row[i] : 0;
    }

    /** All rows are changed here or in copyRow(), so that no index is used untested. */
    private static void set(int[] row, int i, int value) {
        if (row != null && i >= 0 && i < row.length) row[i] = value;
    }

    private static void copyRow(int[] from, int[] to) {
        for (int i = 0; to != null && i < to.length; i++) to[i] = at(from, i);
    }

    private static int total(int[] row, int many) {
        int all = 0;
        for (int i = 0; i < many; i++) all += at(row, i);
        return all;
    }

    /** Java's division cuts towards 0, as a FLOW is cut. */
    private static long cut(long above, long below) {
        return below == 0 ? 0 : above / below;
    }

    /** Above (part 0) or below (part 1) of a fraction in lowest terms. */
    private static long lowest(long above, long below, int part) {
        return cut(part == 0 ? above : below, commonDivisor(Math.abs(above), below));
    }

    private static long commonDivisor(long a, long b) {
        long big = a;
        long small = b;
        // the numbers halve in every second turn, so a long needs fewer turns
        for (int turn = 0; turn < 200 && small != 0; turn++) {
            long left = big % small;
            big = small;
            small = left;
        }
        return big;
    }

    /** What half a cell resists, 1 by 2 k, in parts of 2 WHOLE. */
    private static long halfResists(int k) {
        return cut(WHOLE, k);
    }

    /** All that a step changes or leans on, and that is kept and undone. */
    private static final class Warmth {
        final int[] heats = new int[MOST_CELLS];
        int left;
        int right;
        int pace = FIRST_PACE;
        int in;
        int out;
        int steps;

        void become(Warmth other) {
            copyRow(other.heats, heats);
            left = other.left;
            right = other.right;
            pace = other.pace;
            in = other.in;
            out = other.out;
            steps = other.steps;
        }

        void forget() {
            in = 0;
            out = 0;
            steps = 0;
        }

        int allHeat(int cells) {
            return total(heats, cells);
        }
    }

    /** The stuffs, the cells, and the warmth that they have now. */
    private static final class Wall {
        int stuffs;
        final int[] words = new int[MOST_STUFFS * MOST_WORD];
        final int[] lengths = new int[MOST_STUFFS];
        final int[] passes = new int[MOST_STUFFS];
        final int[] holds = new int[MOST_STUFFS];
        int cells;
        final int[] stuffOf = new int[MOST_CELLS];
        final Warmth now = new Warmth();
        final int[] flows = new int[MOST_CELLS + 1];

        void become(Wall other) {
            stuffs = other.stuffs;
            copyRow(other.words, words);
            copyRow(other.lengths, lengths);
            copyRow(other.passes, passes);
            copyRow(other.holds, holds);
            cells = other.cells;
            copyRow(other.stuffOf, stuffOf);
            now.become(other.now);
        }

        void clear(int pace) {
            stuffs = 0;
            cells = 0;
            now.left = 0;
            now.right = 0;
            now.pace = pace;
        }

        boolean isStuff(int stuff) {
            return stuff >= 0 && stuff < stuffs;
        }

        boolean isCell(int cell) {
            return cell >= 0 && cell < cells;
        }

        int passesAt(int cell) {
            return at(passes, at(stuffOf, cell));
        }

        int holdsAt(int cell) {
            return at(holds, at(stuffOf, cell));
        }

        int cellsOf(int stuff) {
            int bits = 0;
            for (int i = 0; i < cells; i++) if (at(stuffOf, i) == stuff) bits |= 1 << i;
            return bits;
        }

        /** The stuff's word stands at once, but the stuff does not until it is added. */
        void nameNext(Text text) {
            set(lengths, stuffs, text.tokenLength());
            for (int i = 0; i < text.tokenLength(); i++) set(words, stuffs * MOST_WORD + i, at(text.letters, text.from + i));
        }

        void addStuff(int k, int c) {
            set(passes, stuffs, k);
            set(holds, stuffs, c);
            stuffs++;
        }

        void addCells(int stuff, int many) {
            for (int i = 0; i < many; i++) {
                set(stuffOf, cells, stuff);
                set(now.heats, cells, 0);
                cells++;
            }
        }

        /** The stuff whose word is a part of a text without its blanks, or NONE. */
        int stuffNamed(Text text, int from, int behind) {
            for (int i = 0; i < stuffs; i++) if (isNamed(i, text, from, behind)) return i;
            return NONE;
        }

        private boolean isNamed(int stuff, Text text, int from, int behind) {
            int length = at(lengths, stuff);
            int met = 0;
            for (int i = from; i < behind; i++) {
                int letter = at(text.letters, i);
                if (letter == BLANK) continue;
                if (met >= length || letter != at(words, stuff * MOST_WORD + met)) return false;
                met++;
            }
            return met == length;
        }

        /** One STEP of this wall with a warmth; false, and nothing changes, if it is not done. */
        boolean advance(Warmth warmth) {
            for (int i = 0; i <= cells; i++) set(flows, i, flowAt(warmth, i));
            for (int i = 0; i < cells; i++) if (!isHeat(heatBehind(warmth, i))) return false;
            for (int i = 0; i < cells; i++) set(warmth.heats, i, heatBehind(warmth, i));
            warmth.in += at(flows, 0);
            warmth.out += at(flows, cells);
            warmth.steps++;
            return true;
        }

        private int heatBehind(Warmth warmth, int cell) {
            return at(warmth.heats, cell) + at(flows, cell) - at(flows, cell + 1);
        }

        /** FLOW between neighbours i and the next one, all brought over one divisor, so that it is cut but once. */
        int flowAt(Warmth warmth, int i) {
            long leftBelow = degreesBelow(i - 1);
            long rightBelow = degreesBelow(i);
            long falls = degreesAbove(warmth, i - 1) * rightBelow - degreesAbove(warmth, i) * leftBelow;
            return (int) cut(falls * betweenAbove(i), leftBelow * rightBelow * betweenBelow(i) * warmth.pace);
        }

        /** The place -1 is the left air, the one behind the last cell the right air. */
        private long degreesAbove(Warmth warmth, int place) {
            if (place < 0) return warmth.left;
            return place < cells ? at(warmth.heats, place) : warmth.right;
        }

        private long degreesBelow(int place) {
            return isCell(place) ? holdsAt(place) : 1;
        }

        /** PASSES between neighbours i and the next one is this by betweenBelow(). */
        private long betweenAbove(int i) {
            if (i == 0) return 2L * passesAt(0);
            if (i == cells) return 2L * passesAt(cells - 1);
            return 2L * passesAt(i - 1) * passesAt(i);
        }

        private long betweenBelow(int i) {
            return i == 0 || i == cells ? 1 : passesAt(i - 1) + passesAt(i);
        }

        int safe() {
            long least = 1;
            for (int i = 0; i < cells; i++) {
                long above = betweenAbove(i) * betweenBelow(i + 1) + betweenAbove(i + 1) * betweenBelow(i);
                long below = betweenBelow(i) * betweenBelow(i + 1) * holdsAt(i);
                least = Math.max(least, cut(above + below - 1, below));
            }
            return (int) least;
        }

        /**
         * RESISTS in parts of 2 WHOLE. 1 by (2 k m by (k + m)) is 1 by 2 k and 1 by 2 m together,
         * so each cell resists by a half to its left and by a half to its right.
         */
        long resistsInAll() {
            long all = 0;
            for (int i = 0; i < cells; i++) all += 2 * halfResists(passesAt(i));
            return all;
        }

        long resistsRightOf(int cell) {
            long all = halfResists(passesAt(cell));
            for (int i = cell + 1; i < cells; i++) all += 2 * halfResists(passesAt(i));
            return all;
        }

        /** The first cell of the most degrees (sign 1) or of the least (sign -1). */
        int mostOf(int sign) {
            int most = NONE;
            for (int i = 0; i < cells; i++) if (most == NONE || sign * compareDegrees(i, most) > 0) most = i;
            return most;
        }

        private int compareDegrees(int cell, int other) {
            return Integer.compare(at(now.heats, cell) * holdsAt(other), at(now.heats, other) * holdsAt(cell));
        }

        int alikePairs() {
            int pairs = 0;
            for (int i = 0; i < cells; i++) {
                for (int j = i + 1; j < cells; j++) if (isAlike(i, j)) pairs++;
            }
            return pairs;
        }

        private boolean isAlike(int cell, int other) {
            return at(stuffOf, cell) == at(stuffOf, other) && at(now.heats, cell) == at(now.heats, other);
        }
    }

    /** THE TEXT, and the token of it that is looked at. */
    private static final class Text {
        final int[] letters = new int[MOST_LETTERS];
        int many;
        int from;
        int behind;
        int kind;

        void add(int letter) {
            set(letters, many, letter);
            many++;
        }

        /** Looks at the first token that begins at a place or behind it. */
        void lookFrom(int place) {
            from = place;
            while (from < many && at(letters, from) == BLANK) from++;
            behind = from;
            kind = END;
            if (from >= many) return;
            kind = kindOf(at(letters, from));
            behind++;
            while (kind != SIGN && behind < many && kindOf(at(letters, behind)) == kind) behind++;
        }

        private static int kindOf(int letter) {
            if (letter >= 'a' && letter <= 'z') return LETTERS;
            return letter >= '0' && letter <= '9' ? DIGITS : SIGN;
        }

        int tokenLength() {
            return behind - from;
        }

        boolean isToken(String word) {
            if (tokenLength() != word.length()) return false;
            for (int i = 0; i < word.length(); i++) if (at(letters, from + i) != word.charAt(i)) return false;
            return true;
        }

        boolean isSemicolon() {
            return kind == SIGN && at(letters, from) == SEMICOLON;
        }

        /** NONE, if the token is no number of 1 to 4 digits. */
        int number() {
            if (kind != DIGITS || tokenLength() > MOST_DIGITS) return NONE;
            int number = 0;
            for (int i = from; i < behind; i++) number = 10 * number + at(letters, i) - '0';
            return number;
        }
    }

    /** Reads a text by trying its clauses on a wall of its own; it halts with the faulty token looked at. */
    private static final class Reader {
        final Text text = new Text();
        final Wall drawn = new Wall();
        int clauses;

        /** The place of the FAULT or NONE; without one, drawn is the wall that the text makes of the one ahead. */
        int firstFault(Wall before) {
            drawn.become(before);
            text.lookFrom(0);
            for (clauses = 1; clauses <= MOST_CLAUSES; clauses++) {
                if (!readClause()) return text.from;
                if (text.kind == END) return NONE;
                // behind the last clause that there may be, no ; can stand
                if (clauses == MOST_CLAUSES || !text.isSemicolon()) return text.from;
                text.lookFrom(text.behind);
            }
            return text.from;
        }

        private boolean readClause() {
            if (takeWord("wall")) return readWall();
            if (drawn.stuffs < MOST_STUFFS && takeWord("stuff")) return readStuff();
            if (takeWord("layer")) return readLayer();
            if (takeWord("air")) return readAir();
            return takeWord("heat") && readHeat();
        }

        private boolean readWall() {
            int pace = takeNumber(1, MOST_PACE);
            if (pace == NONE) return false;
            drawn.clear(pace);
            return true;
        }

        private boolean readStuff() {
            if (text.kind != LETTERS || text.tokenLength() > MOST_WORD) return false;
            if (drawn.stuffNamed(text, text.from, text.behind) != NONE) return false;
            drawn.nameNext(text);
            text.lookFrom(text.behind);
            int k = takeNumber(1, MOST_OF_STUFF);
            if (k == NONE) return false;
            int c = takeNumber(1, MOST_OF_STUFF);
            if (c == NONE) return false;
            drawn.addStuff(k, c);
            return true;
        }

        private boolean readLayer() {
            int stuff = drawn.stuffNamed(text, text.from, text.behind);
            if (stuff == NONE) return false;
            text.lookFrom(text.behind);
            int many = takeNumber(1, Math.min(MOST_LAYER, MOST_CELLS - drawn.cells));
            if (many == NONE) return false;
            drawn.addCells(stuff, many);
            return true;
        }

        private boolean readAir() {
            int left = takeNumber(0, MOST_DEGREES);
            if (left == NONE) return false;
            int right = takeNumber(0, MOST_DEGREES);
            if (right == NONE) return false;
            drawn.now.left = left;
            drawn.now.right = right;
            return true;
        }

        private boolean readHeat() {
            int cell = takeNumber(0, drawn.cells - 1);
            if (cell == NONE) return false;
            int heat = takeNumber(0, MOST_TOLD_HEAT);
            if (heat == NONE) return false;
            set(drawn.now.heats, cell, heat);
            return true;
        }

        private boolean takeWord(String word) {
            if (!text.isToken(word)) return false;
            text.lookFrom(text.behind);
            return true;
        }

        private int takeNumber(int least, int most) {
            int number = text.number();
            if (number == NONE || number < least || number > most) return NONE;
            text.lookFrom(text.behind);
            return number;
        }
    }

    /** What can be undone, the latest at the top of a ring, and what is kept. */
    private static final class Past {
        final Warmth[] ring = new Warmth[MOST_UNDONE];
        final Warmth[] stored = new Warmth[MOST_KEPT];
        final int[] marks = new int[MOST_KEPT];
        int top;
        int undoable;

        Past() {
            for (int i = 0; i < ring.length; i++) ring[i] = new Warmth();
            for (int i = 0; i < stored.length; i++) stored[i] = new Warmth();
        }

        void forget() {
            undoable = 0;
            for (int i = 0; i < MOST_KEPT; i++) set(marks, i, 0);
        }

        private static Warmth slot(Warmth[] row, int i) {
            return row != null && i >= 0 && i < row.length ? row[i] : null;
        }

        void remember(Warmth now) {
            Warmth slot = slot(ring, top);
            if (slot == null) return;
            slot.become(now);
            top = (top + 1) % MOST_UNDONE;
            undoable = Math.min(undoable + 1, MOST_UNDONE);
        }

        void takeBack(Warmth now) {
            int latest = (top + MOST_UNDONE - 1) % MOST_UNDONE;
            Warmth slot = slot(ring, latest);
            if (slot == null || undoable == 0) return;
            now.become(slot);
            top = latest;
            undoable--;
        }

        boolean isStored(int k) {
            return at(marks, k) == 1;
        }

        void store(int k, Warmth now) {
            Warmth slot = slot(stored, k);
            if (slot == null) return;
            slot.become(now);
            set(marks, k, 1);
        }

        void restore(int k, Warmth now) {
            Warmth slot = slot(stored, k);
            if (slot == null) return;
            now.become(slot);
            undoable = 0;
        }
    }

    /** A page's keys and values, in no order; without keys while the page is missing. */
    private static final class Book {
        boolean there;
        int keys;
        final int[] letters = new int[MOST_KEYS];
        final int[] numbers = new int[MOST_KEYS];
        final int[] values = new int[MOST_KEYS];

        int placeOf(int letter, int number) {
            for (int i = 0; i < keys; i++) if (at(letters, i) == letter && at(numbers, i) == number) return i;
            return NONE;
        }

        int enter(int letter, int number, int value) {
            set(letters, keys, letter);
            set(numbers, keys, number);
            set(values, keys, value);
            keys++;
            return 0;
        }

        int remove(int place) {
            int was = at(values, place);
            keys--;
            set(letters, place, at(letters, keys));
            set(numbers, place, at(numbers, keys));
            set(values, place, at(values, keys));
            return was;
        }

        int alikeWith(Book other) {
            int alike = 0;
            for (int i = 0; i < keys; i++) {
                int place = other.placeOf(at(letters, i), at(numbers, i));
                if (place != NONE && at(other.values, place) == at(values, i)) alike++;
            }
            return alike;
        }
    }
}
