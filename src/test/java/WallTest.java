/** Promises 7 to 9, 17 to 21: stuffs, cells, rest, and what is found without being done. */
final class WallTest {
    private static final Due due = new Due("WallTest");
    private static final int UNKNOWN = WallHeat.UNKNOWN, OUTSIDE = WallHeat.OUTSIDE, NOT = WallHeat.NOT, NONE = WallHeat.NONE;
    private static final String PAIR = "stuff a 2 3;stuff b 4 6;layer a 1;layer b 1;air 100 10;heat 0 60;heat 1 30";

    public static void main(String[] args) {
        stuffs();
        cells();
        rests();
        flows();
        untils();
        resisting();
        swaps();
        gains();
        nothingChanges();
        due.end();
    }

    private static void stuffs() {
        WallHeat x = Due.told("stuff ab 2 3;stuff c 20 19;stuff abcdefg 1 20;layer c 2;layer ab 1;layer c 7");
        int[][] want = {{2, 3, 2, 4}, {20, 19, 1, 1019}, {1, 20, 7, 0}};
        for (int stuff = 0; stuff < 3; stuff++) {
            for (int what = 0; what < 4; what++) {
                due.is("stuff(" + stuff + ", " + what + ")", x.stuff(stuff, what), want[stuff][what]);
            }
            due.is("stuff(" + stuff + ", 4)", x.stuff(stuff, 4), OUTSIDE);
            due.is("stuff(" + stuff + ", -1)", x.stuff(stuff, -1), OUTSIDE);
        }
        due.is("stuff(3, 0)", x.stuff(3, 0), UNKNOWN);
        due.is("stuff(-1, 0)", x.stuff(-1, 0), UNKNOWN);
        due.is("stuff(3, 9)", x.stuff(3, 9), UNKNOWN);
        due.is("stuff(6, 0)", x.stuff(6, 0), UNKNOWN);
    }

    private static void cells() {
        WallHeat x = Due.told("stuff a 2 6;stuff b 3 20;layer b 1;layer a 3;heat 0 9999;heat 1 6;heat 2 4");
        int[][] want = {{1, 9999, 9999, 20}, {0, 6, 1, 1}, {0, 4, 2, 3}, {0, 0, 0, 1}};
        for (int cell = 0; cell < 4; cell++) {
            for (int what = 0; what < 4; what++) {
                due.is("cell(" + cell + ", " + what + ")", x.cell(cell, what), want[cell][what]);
            }
            due.is("cell(" + cell + ", 4)", x.cell(cell, 4), OUTSIDE);
            due.is("cell(" + cell + ", -1)", x.cell(cell, -1), OUTSIDE);
        }
        due.is("cell(4, 0)", x.cell(4, 0), UNKNOWN);
        due.is("cell(-1, 0)", x.cell(-1, 0), UNKNOWN);
        due.is("cell(4, 4)", x.cell(4, 4), UNKNOWN);
    }

    private static void rest(WallHeat x, int cell, long above, long below) {
        due.is("rest(" + cell + ", 0)", x.rest(cell, 0), above);
        due.is("rest(" + cell + ", 1)", x.rest(cell, 1), below);
    }

    private static void rests() {
        WallHeat x = Due.told(PAIR);
        rest(x, 0, 70, 1);
        rest(x, 1, 25, 1);
        due.is("rest(2, 0)", x.rest(2, 0), UNKNOWN);
        due.is("rest(-1, 0)", x.rest(-1, 0), UNKNOWN);
        due.is("rest(2, 2)", x.rest(2, 2), UNKNOWN);
        due.is("rest(0, 2)", x.rest(0, 2), OUTSIDE);
        due.is("rest(0, -1)", x.rest(0, -1), OUTSIDE);
        x.air(0, 10);
        x.air(1, 100);
        rest(x, 0, 40, 1);
        rest(x, 1, 85, 1);
        x.air(1, 11);
        rest(x, 0, 31, 3);
        rest(x, 1, 65, 6);
        x.air(0, 0);
        x.air(1, 0);
        rest(x, 0, 0, 1);
        // 1/19 + 1/17 + 1/13 + 1/11 + 1/16 + 1/9 resist: more than an int holds is above
        x = Due.told("stuff a 19 1;stuff b 17 1;stuff c 13 1;stuff d 11 1;stuff e 16 1;stuff f 9 1;"
                + "layer a 1;layer b 1;layer c 1;layer d 1;layer e 1;layer f 1;air 998 999");
        long all = parts(19) + parts(17) + parts(13) + parts(11) + parts(16) + parts(9);
        long right = all - parts(19) / 2;
        long above = 999 * all - right;
        long divisor = java.math.BigInteger.valueOf(above).gcd(java.math.BigInteger.valueOf(all)).longValue();
        rest(x, 0, above / divisor, all / divisor);
        due.isTrue("above is more than an int", above / divisor > Integer.MAX_VALUE);
    }

    /** What 1 by k resists in parts of 2 * 16 * 9 * 11 * 13 * 17 * 19. */
    private static long parts(int k) {
        return 2L * 16 * 9 * 11 * 13 * 17 * 19 / k;
    }

    private static void flows() {
        WallHeat x = Due.told(PAIR);
        due.is("flow(0)", x.flow(0), 8);
        due.is("flow(1)", x.flow(1), 1);
        due.is("flow(2)", x.flow(2), -1);
        due.is("flow(3)", x.flow(3), OUTSIDE);
        due.is("flow(-1)", x.flow(-1), OUTSIDE);
        // (5 - 10) * 8 by 27 is -1.48, (20 - 5) * 8 / 3 by 27 is 1.48
        x.pace(27);
        due.is("flow(1) cut", x.flow(1), 1);
        due.is("flow(2) cut towards 0", x.flow(2), -1);
        x.pace(41);
        due.is("flow(1) to 0", x.flow(1), 0);
        due.is("flow(2) to 0", x.flow(2), 0);
        // degrees are fractions: (61 / 3 - 5) * 8 / 3 by 1 is 40.9
        x.pace(1);
        x.heat(0, 1);
        due.is("flow(1) of fractions", x.flow(1), 40);
        x.heat(0, 9999);
        x.heat(0, 9939);
        due.is("a flow by which the step is not done", x.flow(0), (300 - 19999) * 4 / 3);
        x = new WallHeat();
        due.is("flow(0) without cells", x.flow(0), NOT);
        due.is("flow(1) without cells", x.flow(1), OUTSIDE);
        due.is("flow(-1) without cells", x.flow(-1), OUTSIDE);
    }

    private static void untils() {
        WallHeat x = Due.told("wall 4;stuff a 1 1;layer a 1;air 100 100");
        // the degrees go 0, 100
        due.is("until(0, 0)", x.until(0, 0), 0);
        due.is("until(0, 1)", x.until(0, 1), 1);
        due.is("until(0, 100)", x.until(0, 100), 1);
        due.is("until(0, 101)", x.until(0, 101), NONE);
        due.is("until(0, 999)", x.until(0, 999), NONE);
        due.is("until(0, 1000)", x.until(0, 1000), OUTSIDE);
        due.is("until(0, -1)", x.until(0, -1), OUTSIDE);
        due.is("until(1, 0)", x.until(1, 0), UNKNOWN);
        due.is("until(-1, 0)", x.until(-1, 0), UNKNOWN);
        due.is("until(1, 1000)", x.until(1, 1000), UNKNOWN);
        // by each step (999 - h / 20) * 40 / 999 is cut twice
        x = Due.told("wall 999;stuff a 20 20;layer a 1;air 999 999");
        int heat = 0;
        for (int steps = 0; steps <= 200; steps++) {
            int degrees = heat / 20;
            if (steps > 0) due.is("until(0, " + degrees + ")", x.until(0, degrees), firstOf(degrees));
            heat = next(heat);
        }
        int last = at(200) / 20;
        due.is("until(0, what is first so by 200)", x.until(0, last), firstOf(last));
        due.is("until(0, more than by 200)", x.until(0, last + 1), NONE);
        // 200 steps are the most: 1 comes from either side by each step
        x = Due.told("wall 999;stuff a 1 20;layer a 1;air 998 998");
        due.is("until(0, 1) slowly", x.until(0, 1), 10);
        due.is("until(0, 20) by 200 steps", x.until(0, 20), 200);
        x.heat(0, 18);
        due.is("until(0, 20) by 191 steps", x.until(0, 20), 191);
        due.is("until(0, 21) by 201 steps", x.until(0, 21), NONE);
        x.heat(0, 2);
        due.is("until(0, 21) by 200 steps", x.until(0, 21), 200);
        x = Due.told("wall 4;stuff a 1 1;layer a 1;air 1 0");
        due.is("until() that rests at 0", x.until(0, 1), NONE);
        // a step that is not done
        x = Due.told("wall 1;stuff a 20 1;layer a 1;air 999 999;heat 0 7");
        due.is("until(0, 7) at once", x.until(0, 7), 0);
        due.is("until(0, 8) by no step", x.until(0, 8), NONE);
    }

    private static int next(int heat) {
        return heat + 2 * ((999 * 20 - heat) * 40 / (20 * 999));
    }

    private static int at(int steps) {
        int heat = 0;
        for (int i = 0; i < steps; i++) heat = next(heat);
        return heat;
    }

    private static int firstOf(int degrees) {
        int heat = 0;
        int steps = 0;
        while (heat < 20 * degrees) {
            heat = next(heat);
            steps++;
        }
        return steps;
    }

    private static void resisting() {
        WallHeat x = new WallHeat();
        due.is("resists(0) without cells", x.resists(0), NOT);
        due.is("resists(2) without cells", x.resists(2), OUTSIDE);
        x = Due.told(PAIR);
        due.is("resists(0)", x.resists(0), 3);
        due.is("resists(1)", x.resists(1), 4);
        due.is("resists(2)", x.resists(2), OUTSIDE);
        due.is("resists(-1)", x.resists(-1), OUTSIDE);
        x = Due.told("stuff a 20 1;layer a 1");
        due.is("resists(0) of one", x.resists(0), 1);
        due.is("resists(1) of one", x.resists(1), 20);
        x = Due.told("stuff a 1 1;layer a 9;layer a 1");
        due.is("resists(0) of ten", x.resists(0), 10);
        due.is("resists(1) of ten", x.resists(1), 1);
        x = Due.told("stuff a 19 1;stuff b 17 1;stuff c 7 1;layer a 1;layer b 1;layer c 1");
        due.is("resists(0) of primes", x.resists(0), 17 * 7 + 19 * 7 + 19 * 17);
        due.is("resists(1) of primes", x.resists(1), 19 * 17 * 7);
    }

    private static void swap(WallHeat x, int cell, int stuff, int above, int below) {
        due.is("swapped(" + cell + ", " + stuff + ", 0)", x.swapped(cell, stuff, 0), above);
        due.is("swapped(" + cell + ", " + stuff + ", 1)", x.swapped(cell, stuff, 1), below);
    }

    private static void swaps() {
        WallHeat x = Due.told(PAIR);
        swap(x, 0, 1, 1, 2);
        swap(x, 1, 0, 1, 1);
        swap(x, 0, 0, 3, 4);
        swap(x, 1, 1, 3, 4);
        due.is("swapped(2, 0, 0)", x.swapped(2, 0, 0), UNKNOWN);
        due.is("swapped(-1, 0, 0)", x.swapped(-1, 0, 0), UNKNOWN);
        due.is("swapped(0, 2, 0)", x.swapped(0, 2, 0), UNKNOWN);
        due.is("swapped(0, -1, 0)", x.swapped(0, -1, 0), UNKNOWN);
        due.is("swapped(0, 2, 2)", x.swapped(0, 2, 2), UNKNOWN);
        due.is("swapped(0, 1, 2)", x.swapped(0, 1, 2), OUTSIDE);
        due.is("swapped(0, 1, -1)", x.swapped(0, 1, -1), OUTSIDE);
    }

    private static void gains() {
        WallHeat x = Due.told(PAIR);
        due.is("gain(0)", x.gain(0), 7);
        due.is("gain(1)", x.gain(1), 2);
        due.is("gain(2)", x.gain(2), UNKNOWN);
        due.is("gain(-1)", x.gain(-1), UNKNOWN);
        x.air(0, 0);
        due.is("gain(0) below 0", x.gain(0), -3);
        // cell 0 alone would be below 0, but then the step is not done for any
        x = Due.told("wall 3;stuff a 2 1;stuff b 1 20;layer a 1;layer b 2;heat 0 100");
        due.is("gain(0) of no step", x.gain(0), NOT);
        due.is("gain(2) of no step", x.gain(2), NOT);
        due.is("gain(3) of no step", x.gain(3), UNKNOWN);
    }

    private static void nothingChanges() {
        WallHeat x = Due.told(PAIR);
        x.step(1);
        int[] before = counts(x);
        x.until(0, 50);
        x.until(1, 999);
        x.gain(0);
        x.swapped(0, 1, 0);
        x.flow(1);
        x.resists(0);
        x.rest(1, 0);
        int[] behind = counts(x);
        for (int i = 0; i < before.length; i++) due.is("foretold: count(" + i + ")", behind[i], before[i]);
        due.is("foretold: cell(0, 1)", x.cell(0, 1), 67);
        due.is("foretold: cell(1, 1)", x.cell(1, 1), 32);
        due.is("foretold: cell(0, 0)", x.cell(0, 0), 0);
    }

    private static int[] counts(WallHeat x) {
        int[] counts = new int[16];
        for (int i = 0; i < counts.length; i++) counts[i] = x.count(i);
        return counts;
    }
}
