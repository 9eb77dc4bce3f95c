/** Promises 10 to 16, 29: what is done, undone and kept, and what is counted. */
final class DoneTest {
    private static final Due due = new Due("DoneTest");
    private static final int UNKNOWN = WallHeat.UNKNOWN, OUTSIDE = WallHeat.OUTSIDE, NOT = WallHeat.NOT, NONE = WallHeat.NONE;
    private static final String PAIR = "stuff a 2 3;stuff b 4 6;layer a 1;layer b 1;air 100 10;heat 0 60;heat 1 30";

    public static void main(String[] args) {
        steps();
        stepsNotDone();
        heats();
        airs();
        paces();
        safeIsLeast();
        undone();
        lastEight();
        kept();
        warmest();
        same();
        counts();
        due.end();
    }

    private static void heatsAre(String when, WallHeat x, int... want) {
        for (int i = 0; i < want.length; i++) due.is(when + ": cell(" + i + ", 1)", x.cell(i, 1), want[i]);
    }

    private static void steps() {
        WallHeat x = Due.told(PAIR);
        due.is("step(1)", x.step(1), 1);
        heatsAre("one step", x, 67, 32);
        due.is("IN", x.count(7), 8);
        due.is("OUT", x.count(8), -1);
        due.is("steps", x.count(12), 1);
        // (100 - 67 / 3) * 4 / 40, (67 / 3 - 32 / 6) * 8 / 3 / 40, (32 / 6 - 10) * 8 / 40
        due.is("step(1) again", x.step(1), 1);
        heatsAre("two steps", x, 67 + 7 - 1, 32 + 1 + 0);
        due.is("IN of two", x.count(7), 15);
        due.is("OUT of two", x.count(8), -1);
        WallHeat y = Due.told(PAIR);
        due.is("step(2)", y.step(2), 2);
        heatsAre("two at once", y, 73, 33);
        due.is("steps of two", y.count(12), 2);
        due.is("undoable of two at once", y.count(14), 1);
        due.is("step(50)", y.step(50), 50);
        due.is("steps of 52", y.count(12), 52);
        due.is("no heat is lost", y.count(6), 90 + y.count(7) - y.count(8));
        due.is("step(0)", y.step(0), OUTSIDE);
        due.is("step(-1)", y.step(-1), OUTSIDE);
        due.is("step(51)", y.step(51), OUTSIDE);
        due.is("undoable", y.count(14), 2);
        y = new WallHeat();
        due.is("step(1) without cells", y.step(1), NOT);
        due.is("step(51) without cells", y.step(51), OUTSIDE);
        due.is("refused is not undoable", y.count(14), 0);
    }

    private static void stepsNotDone() {
        WallHeat x = Due.told("wall 1;stuff a 20 1;layer a 1;air 999 999;heat 0 9");
        due.is("step(3)", x.step(3), 0);
        heatsAre("not done", x, 9);
        due.is("IN", x.count(7), 0);
        due.is("steps", x.count(12), 0);
        due.is("a step() that did nothing can be undone", x.count(14), 1);
        // 4 k by c t is 2: what is amiss changes its sign by each step
        x = Due.told("wall 1;stuff a 1 2;layer a 1;air 10 10");
        due.is("step(5)", x.step(5), 5);
        heatsAre("to and fro", x, 40);
        x.step(1);
        heatsAre("fro", x, 0);
        // 4 k by c t is 4: what is amiss grows by -3: the degrees go 0, 40, not -80
        x = Due.told("wall 1;stuff a 1 1;layer a 1;air 10 10");
        due.is("step(9)", x.step(9), 1);
        heatsAre("stops ahead of the one that is not done", x, 40);
        due.is("steps that were done", x.count(12), 1);
        due.is("IN of what was done", x.count(7), 20);
        due.is("OUT of what was done", x.count(8), -20);
        // 20000 is still heat, more is not
        x = Due.told("wall 1;stuff a 10 20;layer a 1;air 500 500");
        due.is("step to 20000", x.step(1), 1);
        heatsAre("at the most", x, 20000);
        x = Due.told("wall 1;stuff a 10 20;layer a 1;air 501 500");
        due.is("step to 20020", x.step(1), 0);
        x = Due.told("wall 1;stuff a 10 20;layer a 1;air 0 0;heat 0 9999");
        // 9999 / 20 * 20 goes to either side
        due.is("step to below 0", x.step(1), 0);
    }

    private static void heats() {
        WallHeat x = Due.told(PAIR);
        due.is("heat(0, 5)", x.heat(0, 5), 65);
        due.is("heat(0, -65)", x.heat(0, -65), 0);
        due.is("heat(0, -1)", x.heat(0, -1), NOT);
        due.is("heat(0, 0)", x.heat(0, 0), 0);
        due.is("heat(0, 9999)", x.heat(0, 9999), 9999);
        due.is("heat(0, 9999)", x.heat(0, 9999), 19998);
        due.is("heat(0, 3)", x.heat(0, 3), NOT);
        due.is("heat(0, 2)", x.heat(0, 2), 20000);
        due.is("heat(0, -9999)", x.heat(0, -9999), 10001);
        due.is("heat(0, 10000)", x.heat(0, 10000), OUTSIDE);
        due.is("heat(0, -10000)", x.heat(0, -10000), OUTSIDE);
        due.is("heat(0, highest)", x.heat(0, Integer.MAX_VALUE), OUTSIDE);
        due.is("heat(2, 1)", x.heat(2, 1), UNKNOWN);
        due.is("heat(-1, 10000)", x.heat(-1, 10000), UNKNOWN);
        heatsAre("heated", x, 10001, 30);
        due.is("undoable", x.count(14), 7);
        due.is("IN", x.count(7), 0);
    }

    private static void airs() {
        WallHeat x = Due.told(PAIR);
        due.is("air(0, 999)", x.air(0, 999), 100);
        due.is("air(1, 0)", x.air(1, 0), 10);
        due.is("air(0, 0)", x.air(0, 0), 999);
        due.is("air(1, 7)", x.air(1, 7), 0);
        due.is("air(0, -1)", x.air(0, -1), OUTSIDE);
        due.is("air(0, 1000)", x.air(0, 1000), OUTSIDE);
        due.is("air(2, 0)", x.air(2, 0), OUTSIDE);
        due.is("air(-1, 0)", x.air(-1, 0), OUTSIDE);
        due.is("l", x.count(2), 0);
        due.is("r", x.count(3), 7);
        due.is("undoable", x.count(14), 4);
    }

    private static void paces() {
        WallHeat x = Due.told(PAIR);
        due.is("pace(1)", x.pace(1), 3);
        due.is("pace(999)", x.pace(999), 3);
        due.is("t", x.count(4), 999);
        due.is("pace(0)", x.pace(0), OUTSIDE);
        due.is("pace(-1)", x.pace(-1), OUTSIDE);
        due.is("pace(1000)", x.pace(1000), OUTSIDE);
        due.is("t stays", x.count(4), 999);
        due.is("undoable", x.count(14), 2);
        due.is("pace(5) without cells", new WallHeat().pace(5), 1);
    }

    private static void safe(String text, int want) {
        due.is("SAFE of " + text, Due.told(text).count(5), want);
    }

    private static void safeIsLeast() {
        safe("stuff a 1 1;layer a 1", 4);
        safe("stuff a 1 4;layer a 1", 1);
        safe("stuff a 1 20;layer a 1", 1);
        safe("stuff a 5 20;layer a 1", 1);
        safe("stuff a 20 1;layer a 9", 60);
        safe("stuff a 20 1;layer a 1", 80);
        // the second cell's 2 and 8 / 3 by 1
        safe("stuff a 2 20;stuff b 1 1;layer a 1;layer b 1", 4);
        safe("stuff a 1 20;stuff b 2 1;layer a 1;layer b 1;layer a 1", 3);
        // 2 k of the air, 2 k k by 2 k, of it both by c: 3 k by c just so
        safe("stuff a 4 6;layer a 2", 2);
        safe("stuff a 4 5;layer a 2", 3);
    }

    private static void undone() {
        WallHeat x = Due.told(PAIR);
        x.step(2);
        int in = x.count(7);
        x.heat(1, 7);
        x.air(0, 5);
        x.air(1, 6);
        x.pace(9);
        x.step(3);
        due.is("undoable", x.count(14), 6);
        due.is("undo() of step()", x.undo(), 5);
        due.is("steps", x.count(12), 2);
        due.is("IN", x.count(7), in);
        due.is("OUT", x.count(8), -1);
        heatsAre("undone", x, 73, 40);
        due.is("undo() of pace()", x.undo(), 4);
        due.is("t", x.count(4), 40);
        due.is("undo() of air()", x.undo(), 3);
        due.is("r", x.count(3), 10);
        due.is("undo() of air()", x.undo(), 2);
        due.is("l", x.count(2), 100);
        due.is("undo() of heat()", x.undo(), 1);
        heatsAre("heat() undone", x, 73, 33);
        due.is("undo() of step()", x.undo(), 0);
        heatsAre("all undone", x, 60, 30);
        due.is("IN of nothing", x.count(7), 0);
        due.is("OUT of nothing", x.count(8), 0);
        due.is("steps of nothing", x.count(12), 0);
        due.is("undo() of nothing", x.undo(), NOT);
        due.is("air() behind", x.air(0, 50), 100);
        due.is("undo() behind", x.undo(), 0);
        x.write(1);
        x.page(0);
        x.put(0, 1, 1, 1);
        due.is("only these calls can be undone", x.undo(), NOT);
    }

    private static void lastEight() {
        WallHeat x = Due.told(PAIR);
        for (int i = 1; i <= 11; i++) {
            x.heat(0, 1);
            due.is("undoable of " + i, x.count(14), Math.min(i, 8));
        }
        for (int i = 1; i <= 3; i++) due.is("undo() " + i, x.undo(), 8 - i);
        x.heat(0, 100);
        due.is("undoable", x.count(14), 6);
        due.is("heat", x.cell(0, 1), 168);
        for (int i = 5; i >= 0; i--) due.is("undo() to " + i, x.undo(), i);
        due.is("undo() of no more", x.undo(), NOT);
        due.is("heat of the first three", x.cell(0, 1), 63);
    }

    private static void kept() {
        WallHeat x = Due.told(PAIR);
        due.is("keep(-1)", x.keep(-1), UNKNOWN);
        due.is("keep(2)", x.keep(2), UNKNOWN);
        due.is("back(-1)", x.back(-1), UNKNOWN);
        due.is("back(2)", x.back(2), UNKNOWN);
        due.is("back(0)", x.back(0), NOT);
        x.step(1);
        due.is("keep(0)", x.keep(0), 99);
        due.is("back(1)", x.back(1), NOT);
        due.is("keep() is not undone", x.count(14), 1);
        x.air(0, 1);
        x.air(1, 2);
        x.pace(3);
        x.step(4);
        x.heat(0, 5);
        x.keep(1);
        int all = x.count(6);
        int in = x.count(7);
        due.is("back(0)", x.back(0), 99);
        heatsAre("back", x, 67, 32);
        due.is("l", x.count(2), 100);
        due.is("r", x.count(3), 10);
        due.is("t", x.count(4), 40);
        due.is("IN", x.count(7), 8);
        due.is("OUT", x.count(8), -1);
        due.is("steps", x.count(12), 1);
        due.is("undoable", x.count(14), 0);
        due.is("undo()", x.undo(), NOT);
        due.is("back(1)", x.back(1), all);
        due.is("l of 1", x.count(2), 1);
        due.is("IN of 1", x.count(7), in);
        due.is("steps of 1", x.count(12), 5);
        x.heat(0, 5);
        due.is("back(1) again", x.back(1), all);
        x.heat(1, 1);
        x.keep(1);
        due.is("kept anew", x.back(1), all + 1);
        due.is("refused back() leaves", Due.told("air 1 1").back(0), NOT);
        x = new WallHeat();
        x.air(0, 9);
        due.is("keep(0) without cells", x.keep(0), 0);
        x.air(0, 8);
        due.is("refused: back(1)", x.back(1), NOT);
        due.is("undoable yet", x.count(14), 2);
        due.is("back(0) without cells", x.back(0), 0);
        due.is("l", x.count(2), 9);
    }

    private static void warmest() {
        WallHeat x = Due.told("stuff a 1 2;stuff b 1 4;layer a 2;layer b 3;heat 0 3;heat 1 4;heat 2 8;heat 3 6;heat 4 7");
        // degrees 1.5, 2, 2, 1.5, 1.75
        due.is("WARMEST", x.count(9), 1);
        due.is("COLDEST", x.count(10), 0);
        x.heat(2, 1);
        x.heat(3, -1);
        due.is("WARMEST by a fraction", x.count(9), 2);
        due.is("COLDEST by a fraction", x.count(10), 3);
        x = Due.told("stuff a 1 2;layer a 3");
        due.is("WARMEST of like ones", x.count(9), 0);
        due.is("COLDEST of like ones", x.count(10), 0);
        due.is("WARMEST of none", new WallHeat().count(9), NONE);
        due.is("COLDEST of none", new WallHeat().count(10), NONE);
    }

    private static void same() {
        WallHeat x = Due.told("stuff a 1 2;stuff b 1 2;layer a 2;layer b 2;layer a 1");
        due.is("SAME", x.count(11), 4);
        x.heat(0, 5);
        due.is("SAME less", x.count(11), 2);
        x.heat(2, 5);
        due.is("SAME of unlike stuffs", x.count(11), 1);
        x.heat(1, 5);
        due.is("SAME of like heat", x.count(11), 1);
        due.is("SAME of ten", Due.told("stuff a 1 2;layer a 9;layer a 1").count(11), 45);
        due.is("SAME of one", Due.told("stuff a 1 2;layer a 1").count(11), 0);
    }

    private static void counts() {
        WallHeat x = Due.told(PAIR);
        x.step(1);
        x.page(1);
        x.page(2);
        x.put(1, 1, 1, 1);
        x.put(2, 1, 1, 1);
        x.put(2, 2, 1, 1);
        Due.write(x, "wall");
        int[] want = {2, 2, 100, 10, 40, 3, 99, 8, -1, 0, 1, 0, 1, 3, 1, 4};
        for (int i = 0; i < want.length; i++) due.is("count(" + i + ")", x.count(i), want[i]);
        due.is("count(16)", x.count(16), OUTSIDE);
        due.is("count(-1)", x.count(-1), OUTSIDE);
        due.is("count(lowest)", x.count(Integer.MIN_VALUE), OUTSIDE);
    }
}
