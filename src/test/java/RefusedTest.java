import java.util.List;

/**
 * The row of the Terms that says in which order a call is refused, and that nothing changes then: each refused call is
 * done on one of two objects that are alike otherwise, and all that can be seen of both must be alike behind it.
 */
final class RefusedTest {
    private static final Due due = new Due("RefusedTest");
    private static final int UNKNOWN = WallHeat.UNKNOWN, OUTSIDE = WallHeat.OUTSIDE, NOT = WallHeat.NOT, FULL = WallHeat.FULL,
            NULL = WallHeat.NULL, KEY = WallHeat.KEY, ROOM = WallHeat.ROOM;
    private static final int LOWEST = Integer.MIN_VALUE, HIGHEST = Integer.MAX_VALUE;

    private interface State {
        WallHeat made();
    }

    private interface Call {
        long on(WallHeat x);
    }

    public static void main(String[] args) {
        writing();
        doing();
        finding(RefusedTest::busy);
        finding(RefusedTest::hot);
        asking(RefusedTest::fresh);
        asking(RefusedTest::busy);
        withoutCells(RefusedTest::fresh);
        withoutCells(RefusedTest::cellless);
        notNow();
        paging();
        onlyRefusedIfTold();
        due.end();
    }

    // ---- the objects

    private static WallHeat fresh() {
        return new WallHeat();
    }

    /** Something of all that there is, and a text without FAULT. */
    private static WallHeat busy() {
        WallHeat x = Due.told("wall 9;stuff a 2 3;stuff b 4 6;layer a 1;layer b 1;air 100 10");
        x.heat(0, 60);
        x.keep(0);
        x.step(3);
        x.air(1, 70);
        x.keep(1);
        x.pace(30);
        x.heat(1, 8);
        x.page(0);
        for (int i = 0; i < 8; i++) x.put(0, i, -i, 10 + i);
        x.page(1);
        x.put(1, 3, -3, 0);
        Due.write(x, "stuff c 5 5;layer c 1;heat 0 7;air 1 2");
        return x;
    }

    /** Busy, but its text has a FAULT behind much that has none. */
    private static WallHeat faulty() {
        WallHeat x = busy();
        Due.write(x, ";wall 1;stuff a 1 1;stuff a");
        return x;
    }

    /** Its first CELL has the most HEAT and its last one none; no STEP is done. */
    private static WallHeat hot() {
        WallHeat x = Due.told("wall 1;stuff a 20 1;stuff b 1 20;layer a 1;layer b 2");
        x.heat(0, 9999);
        x.heat(0, 9999);
        x.heat(0, 2);
        Due.write(x, "a");
        return x;
    }

    private static WallHeat cellless() {
        WallHeat x = Due.told("wall 9;stuff a 2 3;air 100 10");
        x.air(0, 5);
        x.keep(1);
        x.pace(4);
        Due.write(x, "layer a 3;heat 1 7");
        return x;
    }

    private static WallHeat full() {
        WallHeat x = new WallHeat();
        for (int i = 0; i < 194; i++) x.write(' ');
        Due.write(x, "wall 7");
        return x;
    }

    // ---- how a refused call is looked at

    private static void refused(String name, State state, Call call, int want) {
        WallHeat x = state.made();
        WallHeat y = state.made();
        due.is(name, call.on(x), want);
        List<String> seen = Probe.of(x);
        List<String> wanted = Probe.of(y);
        for (int i = 0; i < wanted.size(); i++) {
            boolean alike = i < seen.size() && seen.get(i).equals(wanted.get(i));
            due.isTrue("behind " + name + ": " + wanted.get(i) + " without it", alike);
        }
    }

    // ---- write, wall

    private static void writing() {
        for (int letter : new int[] {-1, 256, LOWEST, HIGHEST}) {
            refused("write() outside", RefusedTest::busy, x -> x.write(letter), OUTSIDE);
            refused("write() outside, of a full text", RefusedTest::full, x -> x.write(letter), OUTSIDE);
        }
        refused("write() of a full text", RefusedTest::full, x -> x.write('x'), FULL);
        refused("write() of a full text", RefusedTest::full, x -> x.write(255), FULL);
        refused("wall() of no text", RefusedTest::fresh, x -> x.wall(), NOT);
        refused("wall() with a FAULT", RefusedTest::faulty, x -> x.wall(), NOT);
        refused("wall() with a FAULT", RefusedTest::hot, x -> x.wall(), NOT);
    }

    // ---- step, heat, air, pace, undo, keep, back

    private static void doing() {
        List<State> states = List.of(RefusedTest::fresh, RefusedTest::busy, RefusedTest::hot, RefusedTest::cellless);
        for (State state : states) {
            for (int n : new int[] {-1, 0, 51, LOWEST, HIGHEST}) refused("step() outside", state, x -> x.step(n), OUTSIDE);
            for (int cell : new int[] {-1, 3, 10, LOWEST, HIGHEST}) {
                for (int v : new int[] {0, 9999, 10000, -10000, HIGHEST}) refused("heat() of no CELL", state, x -> x.heat(cell, v), UNKNOWN);
            }
            for (int side : new int[] {-1, 2, LOWEST, HIGHEST}) {
                for (int g : new int[] {0, 999, 1000, -1}) refused("air() of no side", state, x -> x.air(side, g), OUTSIDE);
            }
            for (int g : new int[] {-1, 1000, LOWEST, HIGHEST}) {
                for (int side = 0; side < 2; side++) {
                    int one = side;
                    refused("air() outside", state, x -> x.air(one, g), OUTSIDE);
                }
            }
            for (int t : new int[] {-1, 0, 1000, LOWEST, HIGHEST}) refused("pace() outside", state, x -> x.pace(t), OUTSIDE);
            for (int k : new int[] {-1, 2, LOWEST, HIGHEST}) {
                refused("keep() of no k", state, x -> x.keep(k), UNKNOWN);
                refused("back() of no k", state, x -> x.back(k), UNKNOWN);
            }
        }
        // outside, and not now too
        for (int v : new int[] {10000, -10000, LOWEST, HIGHEST}) {
            refused("heat() outside", RefusedTest::hot, x -> x.heat(0, v), OUTSIDE);
            refused("heat() outside", RefusedTest::hot, x -> x.heat(2, v), OUTSIDE);
            refused("heat() outside", RefusedTest::busy, x -> x.heat(1, v), OUTSIDE);
        }
    }

    /** "NOT (not now: as told)" */
    private static void notNow() {
        refused("heat() of more than the most", RefusedTest::hot, x -> x.heat(0, 1), NOT);
        refused("heat() of more than the most", RefusedTest::hot, x -> x.heat(0, 9999), NOT);
        refused("heat() of less than none", RefusedTest::hot, x -> x.heat(2, -1), NOT);
        refused("heat() of less than none", RefusedTest::hot, x -> x.heat(1, -9999), NOT);
        refused("undo() of none", RefusedTest::fresh, x -> x.undo(), NOT);
        refused("undo() of none", () -> {
            WallHeat x = busy();
            x.back(1);
            return x;
        }, x -> x.undo(), NOT);
        refused("back() of nothing", RefusedTest::hot, x -> x.back(0), NOT);
        refused("back() of nothing", RefusedTest::hot, x -> x.back(1), NOT);
        refused("back() of nothing", RefusedTest::cellless, x -> x.back(0), NOT);
        refused("gain() of no STEP", RefusedTest::hot, x -> x.gain(2), NOT);
    }

    // ---- stuff, cell, rest, until, swapped, gain

    private static void asking(State state) {
        for (int no : new int[] {-1, 2, 6, 10, LOWEST, HIGHEST}) {
            for (int what : new int[] {0, 3, 4, -1}) {
                refused("stuff() of none", state, x -> x.stuff(no, what), UNKNOWN);
                refused("cell() of none", state, x -> x.cell(no, what), UNKNOWN);
                refused("rest() of none", state, x -> x.rest(no, what), UNKNOWN);
                refused("until() of none", state, x -> x.until(no, what), UNKNOWN);
                refused("until() of none", state, x -> x.until(no, 1000 - what), UNKNOWN);
                refused("swapped() of none", state, x -> x.swapped(no, 0, what), UNKNOWN);
                refused("swapped() by none", state, x -> x.swapped(0, no, what), UNKNOWN);
            }
            refused("gain() of none", state, x -> x.gain(no), UNKNOWN);
        }
        for (int what : new int[] {-1, 16, LOWEST, HIGHEST}) refused("count() outside", state, x -> x.count(what), OUTSIDE);
        for (int part : new int[] {-1, 2, LOWEST, HIGHEST}) refused("resists() outside", state, x -> x.resists(part), OUTSIDE);
        for (int i : new int[] {-1, 3, LOWEST, HIGHEST}) refused("flow() outside", state, x -> x.flow(i), OUTSIDE);
    }

    private static void finding(State state) {
        for (int no : new int[] {-1, 2, 4, LOWEST, HIGHEST}) {
            for (int i = 0; i < 2; i++) {
                int one = i;
                if (no != 2) refused("stuff() outside", state, x -> x.stuff(one, no), OUTSIDE);
                if (no != 2) refused("cell() outside", state, x -> x.cell(one, no), OUTSIDE);
                refused("rest() outside", state, x -> x.rest(one, no), OUTSIDE);
                refused("swapped() outside", state, x -> x.swapped(one, 1 - one, no), OUTSIDE);
                if (no < 0) refused("until() outside", state, x -> x.until(one, no), OUTSIDE);
            }
        }
        refused("until() outside", state, x -> x.until(0, 1000), OUTSIDE);
        refused("until() outside", state, x -> x.until(0, HIGHEST), OUTSIDE);
        refused("gain() of none", state, x -> x.gain(3), UNKNOWN);
        refused("gain() of none", state, x -> x.gain(-1), UNKNOWN);
        refused("flow() outside", state, x -> x.flow(4), OUTSIDE);
    }

    /** "NOT: no CELLS", but what is outside is so ahead of that. */
    private static void withoutCells(State state) {
        refused("step()", state, x -> x.step(1), NOT);
        refused("step()", state, x -> x.step(50), NOT);
        refused("step(51)", state, x -> x.step(51), OUTSIDE);
        refused("step(0)", state, x -> x.step(0), OUTSIDE);
        refused("flow(0)", state, x -> x.flow(0), NOT);
        refused("flow(1)", state, x -> x.flow(1), OUTSIDE);
        refused("flow(-1)", state, x -> x.flow(-1), OUTSIDE);
        refused("resists(0)", state, x -> x.resists(0), NOT);
        refused("resists(1)", state, x -> x.resists(1), NOT);
        refused("resists(2)", state, x -> x.resists(2), OUTSIDE);
        refused("resists(-1)", state, x -> x.resists(-1), OUTSIDE);
        refused("gain(0)", state, x -> x.gain(0), UNKNOWN);
        refused("until(0, 1000)", state, x -> x.until(0, 1000), UNKNOWN);
        refused("cell(0, 4)", state, x -> x.cell(0, 4), UNKNOWN);
        refused("rest(0, 2)", state, x -> x.rest(0, 2), UNKNOWN);
        refused("heat(0, 0)", state, x -> x.heat(0, 0), UNKNOWN);
        refused("heat(0, -1)", state, x -> x.heat(0, -1), UNKNOWN);
        refused("swapped(0, 0, 0)", state, x -> x.swapped(0, 0, 0), UNKNOWN);
    }

    // ---- pages

    /** "UNKNOWN .., OUTSIDE .., then what the machine finds: .. NULL .., KEY .., ROOM .., of several the first in this order" */
    private static void paging() {
        for (int page : new int[] {-1, 3, LOWEST, HIGHEST}) {
            for (int letter : new int[] {3, 26}) {
                refused("put() on none", RefusedTest::busy, x -> x.put(page, letter, -3, 1), UNKNOWN);
                refused("get() on none", RefusedTest::busy, x -> x.get(page, letter, -3), UNKNOWN);
                refused("strike() on none", RefusedTest::busy, x -> x.strike(page, letter, -3), UNKNOWN);
            }
            refused("page() of none", RefusedTest::busy, x -> x.page(page), UNKNOWN);
            refused("sum() of none", RefusedTest::busy, x -> x.sum(page, 0), UNKNOWN);
            refused("sum() of none, outside", RefusedTest::busy, x -> x.sum(page, 3), UNKNOWN);
            refused("drop() of none", RefusedTest::busy, x -> x.drop(page), UNKNOWN);
            for (int other = 0; other < 3; other++) {
                int one = other;
                refused("common() of none", RefusedTest::busy, x -> x.common(page, one), UNKNOWN);
                refused("common() with none", RefusedTest::busy, x -> x.common(one, page), UNKNOWN);
            }
            refused("common() of none and none", RefusedTest::busy, x -> x.common(page, page), UNKNOWN);
        }
        int[][] keys = {{-1, 0}, {26, 0}, {LOWEST, 0}, {HIGHEST, 0}, {3, -100}, {3, 100}, {3, LOWEST}, {3, HIGHEST}, {26, 100}};
        for (int page = 0; page < 3; page++) {
            int one = page;
            for (int[] key : keys) {
                refused("put() outside", RefusedTest::busy, x -> x.put(one, key[0], key[1], 1), OUTSIDE);
                refused("get() outside", RefusedTest::busy, x -> x.get(one, key[0], key[1]), OUTSIDE);
                refused("strike() outside", RefusedTest::busy, x -> x.strike(one, key[0], key[1]), OUTSIDE);
            }
            for (int value : new int[] {-1000, 1000, LOWEST, HIGHEST}) {
                refused("put() of a value outside", RefusedTest::busy, x -> x.put(one, 3, -3, value), OUTSIDE);
                refused("put() of a value outside", RefusedTest::busy, x -> x.put(one, 25, 99, value), OUTSIDE);
            }
            for (int what : new int[] {-1, 3, LOWEST, HIGHEST}) refused("sum() outside", RefusedTest::busy, x -> x.sum(one, what), OUTSIDE);
        }
        machine();
    }

    private static void machine() {
        refused("put() on a missing one", RefusedTest::busy, x -> x.put(2, 3, -3, 1), NULL);
        refused("get() on a missing one", RefusedTest::busy, x -> x.get(2, 3, -3), NULL);
        refused("strike() on a missing one", RefusedTest::busy, x -> x.strike(2, 3, -3), NULL);
        refused("common() of a missing one", RefusedTest::busy, x -> x.common(2, 0), NULL);
        refused("common() with a missing one", RefusedTest::busy, x -> x.common(0, 2), NULL);
        refused("common() of a missing one and itself", RefusedTest::busy, x -> x.common(2, 2), NULL);
        refused("sum() of a missing one", RefusedTest::busy, x -> x.sum(2, 1), NULL);
        refused("drop() of a missing one", RefusedTest::busy, x -> x.drop(2), NULL);
        refused("get() of no KEY", RefusedTest::busy, x -> x.get(0, 3, 3), KEY);
        refused("get() of no KEY", RefusedTest::busy, x -> x.get(1, 4, -3), KEY);
        refused("strike() of no KEY", RefusedTest::busy, x -> x.strike(0, 3, 3), KEY);
        refused("strike() of no KEY", RefusedTest::busy, x -> x.strike(1, 4, -3), KEY);
        refused("put() of a ninth KEY", RefusedTest::busy, x -> x.put(0, 3, 3, 1), ROOM);
        refused("put() of a ninth KEY", RefusedTest::busy, x -> x.put(0, 8, 0, 0), ROOM);
    }

    /** What is not refused changes something: so the two objects are looked at well enough. */
    private static void onlyRefusedIfTold() {
        List<Call> calls = List.of(x -> x.write('a'), x -> x.erase(), x -> x.step(1), x -> x.heat(0, 1), x -> x.air(0, 1), x -> x.air(1, 1),
                x -> x.pace(31), x -> x.undo(), x -> x.keep(0), x -> x.keep(1), x -> x.back(0), x -> x.back(1), x -> x.page(0), x -> x.page(1),
                x -> x.page(2), x -> x.put(0, 7, -7, 1), x -> x.put(1, 2, 3, 4), x -> x.strike(0, 7, -7), x -> x.drop(0), x -> x.drop(1), x -> x.wall());
        for (Call call : calls) {
            WallHeat x = busy();
            due.isTrue("not refused", call.on(x) >= 0);
            due.isTrue("it changes something", !Probe.of(x).equals(Probe.of(busy())));
        }
        List<Call> told = List.of(x -> x.fault(), x -> x.find(), x -> x.stuff(0, 0), x -> x.cell(0, 2), x -> x.rest(0, 1), x -> x.flow(2),
                x -> x.until(0, 999), x -> x.until(1, 5), x -> x.resists(1), x -> x.swapped(0, 1, 1), x -> x.gain(1), x -> x.get(0, 7, -7),
                x -> x.common(0, 1), x -> x.common(1, 1), x -> x.sum(0, 2), x -> x.count(9));
        for (Call call : told) {
            WallHeat x = busy();
            due.isTrue("not refused", call.on(x) >= -999);
            due.isTrue("it changes nothing", Probe.of(x).equals(Probe.of(busy())));
        }
    }
}
