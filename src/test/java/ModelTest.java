/** All promises: long runs of calls, the same for ever, each answer held against PlainModel's. */
final class ModelTest {
    private static final Due due = new Due("ModelTest");
    private static final String[] WORDS = {"a", "b", "ab", "brick", "wool", "abcdefg", "wall", "abcdefgh"};
    private static final int[] ODD = {-1, Integer.MIN_VALUE, Integer.MAX_VALUE, 100, 1000, 10000, -10000, 10, 11, 3, 6};

    private final WallHeat x = new WallHeat();
    private final PlainModel y = new PlainModel();
    private final int run;
    private long seed;
    /** Calls yet to make: behind 512 nothing is promised. */
    private int left = 512;

    private ModelTest(int run) {
        this.run = run;
        this.seed = 7919L * run + 1;
    }

    public static void main(String[] args) {
        int runs = args.length > 0 ? Integer.parseInt(args[0]) : 600;
        for (int run = 0; run < runs; run++) new ModelTest(run).go();
        due.end();
    }

    /** 0 to below - 1; the same row of numbers for each run, whatever the machine. */
    private int any(int below) {
        seed = seed * 6364136223846793005L + 1442695040888963407L;
        return (int) ((seed >>> 33) % below);
    }

    private int from(int least, int most) {
        return least + any(most - least + 1);
    }

    /** Mostly a number within bounds, now and then one at their edge or beyond. */
    private int near(int least, int most) {
        switch (any(24)) {
            case 0: return least - 1;
            case 1: return most + 1;
            case 2: return least;
            case 3: return most;
            case 4: return ODD[any(ODD.length)];
            default: return from(least, most);
        }
    }

    /** Both answers to one call. */
    private void is(String call, long got, long want) {
        left--;
        due.is("run " + run + ": " + call, got, want);
    }

    private void go() {
        if (any(8) > 0) tell(firstText());
        // no call() makes more than 24 calls, and 16 are for the end
        while (left >= 40) {
            if (any(30) == 0) tell(nextText());
            else call();
        }
        for (int i = 0; i < 16; i++) is("count(" + i + ")", x.count(i), y.count(i));
        due.isTrue("run " + run + ": 512 calls at the most", left >= 0);
    }

    // ---- texts

    private String firstText() {
        StringBuilder text = new StringBuilder("wall " + (any(2) == 0 ? from(1, 9) : from(1, 99)));
        int stuffs = from(1, 5);
        for (int i = 0; i < stuffs; i++) text.append(";stuff ").append(WORDS[i]).append(' ').append(from(1, 20)).append(' ').append(from(1, 20));
        text.append(";air ").append(from(0, 999)).append(' ').append(from(0, 999));
        int layers = from(1, 4);
        for (int i = 0; i < layers; i++) text.append(";layer ").append(WORDS[any(stuffs)]).append(' ').append(from(1, 3));
        for (int i = any(4); i > 0; i--) text.append(";heat ").append(any(layers)).append(' ').append(from(0, 9999));
        return text.toString();
    }

    private String nextText() {
        StringBuilder text = new StringBuilder();
        int clauses = any(9) == 0 ? from(20, 30) : from(1, 5);
        for (int i = 0; i < clauses; i++) text.append(i == 0 ? "" : any(20) == 0 ? " ; " : ";").append(clauses > 9 ? "wall" + any(30) : clause());
        for (int i = any(12) - 9; i > 0 && text.length() > 0; i--) spoil(text);
        return text.toString();
    }

    private void spoil(StringBuilder text) {
        int place = any(text.length());
        if (any(3) == 0) text.deleteCharAt(place);
        else if (any(2) == 0) text.insert(place, sign());
        else text.setCharAt(place, sign());
    }

    private char sign() {
        String signs = "  ;;;0129awltsufhe.A\t\n\u0000\u00ff\u00e9-+`{/:";
        return signs.charAt(any(signs.length()));
    }

    private String clause() {
        switch (any(8)) {
            case 0: return "wall " + near(1, 999);
            case 1: return "air " + near(0, 999) + " " + near(0, 999);
            case 2: return "heat " + near(0, Math.max(0, y.count(1) - 1)) + " " + near(0, 9999);
            case 3:
            case 4: return "stuff " + WORDS[any(WORDS.length)] + " " + near(1, 20) + " " + near(1, 20);
            default: return "layer " + WORDS[any(WORDS.length)] + " " + (any(3) == 0 ? near(1, 9) : from(1, 2));
        }
    }

    private void tell(String text) {
        if (text.length() + 4 > left - 16) return;
        if (any(6) > 0) is("erase()", x.erase(), y.erase());
        for (int i = 0; i < text.length(); i++) {
            int letter = text.charAt(i);
            is("write(" + letter + ")", x.write(letter), y.write(letter));
        }
        is("fault() of \"" + text + "\"", x.fault(), y.fault());
        is("find()", x.find(), y.find());
        is("wall()", x.wall(), y.wall());
    }

    // ---- calls

    private void call() {
        int cell = near(0, Math.max(0, y.count(1) - 1));
        int stuff = near(0, Math.max(0, y.count(0) - 1));
        switch (any(6)) {
            case 0:
            case 1: callDone(cell); break;
            case 2: callFound(cell, stuff); break;
            case 3: callTold(cell, stuff); break;
            case 4: callPages(); break;
            default: int what = near(0, 15); is("count(" + what + ")", x.count(what), y.count(what));
        }
    }

    private void callTold(int cell, int stuff) {
        int what = near(0, 3);
        int part = near(0, 1);
        switch (any(8)) {
            case 0: int letter = near(0, 255); is("write(" + letter + ")", x.write(letter), y.write(letter)); break;
            case 1: is("erase()", x.erase(), y.erase()); break;
            case 2: is("wall()", x.wall(), y.wall()); break;
            case 3: callFind(); break;
            case 4: is("stuff(" + stuff + ", " + what + ")", x.stuff(stuff, what), y.stuff(stuff, what)); break;
            case 5: is("cell(" + cell + ", " + what + ")", x.cell(cell, what), y.cell(cell, what)); break;
            default: is("rest(" + cell + ", " + part + ")", x.rest(cell, part), y.rest(cell, part));
        }
    }

    private void callFind() {
        String word = WORDS[any(WORDS.length)];
        is("erase()", x.erase(), y.erase());
        for (int i = 0; i < word.length(); i++) {
            if (any(9) == 0) is("write(32)", x.write(32), y.write(32));
            is("write(" + word.charAt(i) + ")", x.write(word.charAt(i)), y.write(word.charAt(i)));
        }
        is("find() of " + word, x.find(), y.find());
        is("fault() of " + word, x.fault(), y.fault());
    }

    private void callDone(int cell) {
        int k = near(0, 1);
        switch (any(12)) {
            case 0:
            case 1:
            case 2: int n = any(2) == 0 ? near(1, 50) : 1; is("step(" + n + ")", x.step(n), y.step(n)); break;
            case 3:
            case 4: int v = any(2) == 0 ? near(-9999, 9999) : from(-300, 300); is("heat(" + cell + ", " + v + ")", x.heat(cell, v), y.heat(cell, v)); break;
            case 5: int g = near(0, 999); is("air(" + k + ", " + g + ")", x.air(k, g), y.air(k, g)); break;
            case 6: int t = any(2) == 0 ? near(1, 999) : from(1, 12); is("pace(" + t + ")", x.pace(t), y.pace(t)); break;
            case 7:
            case 8:
            case 9: is("undo()", x.undo(), y.undo()); break;
            case 10: is("keep(" + k + ")", x.keep(k), y.keep(k)); break;
            default: is("back(" + k + ")", x.back(k), y.back(k));
        }
    }

    private void callFound(int cell, int stuff) {
        int part = near(0, 1);
        switch (any(6)) {
            case 0:
            case 1: int i = near(0, y.count(1)); is("flow(" + i + ")", x.flow(i), y.flow(i)); break;
            case 2: callUntil(cell); break;
            case 3: is("resists(" + part + ")", x.resists(part), y.resists(part)); break;
            case 4: is("swapped(" + cell + ", " + stuff + ", " + part + ")", x.swapped(cell, stuff, part), y.swapped(cell, stuff, part)); break;
            default: is("gain(" + cell + ")", x.gain(cell), y.gain(cell));
        }
    }

    private void callUntil(int cell) {
        // the model is slow, so it isn't asked each time for all 200 steps
        int heat = y.cell(cell, 1);
        int holds = y.stuff(y.cell(cell, 0), 1);
        int g = any(4) == 0 || heat < 0 ? near(0, 999) : heat / holds + from(-1, 4);
        is("until(" + cell + ", " + g + ")", x.until(cell, g), y.until(cell, g));
    }

    private void callPages() {
        int page = near(0, 2);
        int other = near(0, 2);
        int letter = any(4) == 0 ? near(0, 25) : any(3);
        int number = any(4) == 0 ? near(-99, 99) : from(-2, 2);
        int value = any(2) == 0 ? near(-999, 999) : any(2);
        int what = near(0, 2);
        String key = "(" + page + ", " + letter + ", " + number + ")";
        switch (any(24)) {
            case 0:
            case 1: is("page(" + page + ")", x.page(page), y.page(page)); break;
            case 2: is("drop(" + page + ")", x.drop(page), y.drop(page)); break;
            case 3:
            case 4:
            case 5: is("get" + key, x.get(page, letter, number), y.get(page, letter, number)); break;
            case 6:
            case 7: is("strike" + key, x.strike(page, letter, number), y.strike(page, letter, number)); break;
            case 8:
            case 9:
            case 10: is("common(" + page + ", " + other + ")", x.common(page, other), y.common(page, other)); break;
            case 11:
            case 12:
            case 13: is("sum(" + page + ", " + what + ")", x.sum(page, what), y.sum(page, what)); break;
            default: is("put" + key + " of " + value, x.put(page, letter, number, value), y.put(page, letter, number, value));
        }
    }
}
