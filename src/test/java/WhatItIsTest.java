/** "What it is", the document's first section: what is so of every wall, held against many walls, the same for ever. */
final class WhatItIsTest {
    private static final Due due = new Due("WhatItIsTest");
    /** Each of 1 .. 20 divides it, so DEGREES and what resists are whole numbers of 1 by it. */
    private static final long WHOLE = 232792560L;

    private final WallHeat x;
    private final String text;
    private long seed;

    private WhatItIsTest(int run) {
        seed = 104729L * run + 3;
        text = anyWall();
        x = Due.told(text);
        x.pace(x.count(5));
    }

    public static void main(String[] args) {
        // each part has an object of its own: beyond 512 calls nothing is promised
        for (int run = 0; run < 200; run++) {
            new WhatItIsTest(run).stepsOn();
            new WhatItIsTest(run).comesToRest();
        }
        due.end();
    }

    private int from(int least, int most) {
        seed = seed * 6364136223846793005L + 1442695040888963407L;
        return least + (int) ((seed >>> 33) % (most - least + 1));
    }

    private String anyWall() {
        StringBuilder wall = new StringBuilder("wall 40");
        int stuffs = from(1, 4);
        for (int i = 0; i < stuffs; i++) wall.append(";stuff ").append("abcd".charAt(i)).append(' ').append(from(1, 20)).append(' ').append(from(1, 20));
        int layers = from(1, 4);
        for (int i = 0; i < layers; i++) wall.append(";layer ").append("abcd".charAt(from(0, stuffs - 1))).append(' ').append(from(1, 10 / layers - 1));
        wall.append(";air ").append(from(0, 999)).append(' ').append(from(0, 999));
        for (int i = 0; i < layers; i++) wall.append(";heat ").append(i).append(' ').append(from(0, 9999));
        return wall.toString();
    }

    // ---- by each step

    private void stepsOn() {
        for (int i = 0; i < 3; i++) oneStep();
    }

    private void oneStep() {
        int cells = x.count(1);
        long[] degrees = degrees();
        int[] flows = new int[cells + 1];
        int[] heats = new int[cells];
        for (int i = 0; i <= cells; i++) flows[i] = x.flow(i);
        for (int i = 0; i < cells; i++) heats[i] = x.cell(i, 1);
        int[] counts = {x.count(2), x.count(3), x.count(6), x.count(7), x.count(8)};
        is("step(1) that is short enough", x.step(1), 1);
        goesFromTheWarmer(flows, degrees);
        noneIsLost(flows, heats, counts);
        for (int side = 0; side < 2; side++) is("the air stays as warm as it is", x.count(2 + side), counts[side]);
        staysBetween(degrees);
    }

    /** All DEGREES in parts of 1 by WHOLE: the left air, the CELLS, the right air. */
    private long[] degrees() {
        int cells = x.count(1);
        long[] degrees = new long[cells + 2];
        degrees[0] = x.count(2) * WHOLE;
        for (int i = 0; i < cells; i++) degrees[i + 1] = x.cell(i, 2) * (WHOLE / x.cell(i, 3));
        degrees[cells + 1] = x.count(3) * WHOLE;
        return degrees;
    }

    // "by each step heat goes from the warmer of two neighbours to the colder one"
    private void goesFromTheWarmer(int[] flows, long[] degrees) {
        for (int i = 0; i < flows.length; i++) {
            int falls = Long.compare(degrees[i], degrees[i + 1]);
            isTrue("flow(" + i + ") is not from the colder one", Integer.signum(flows[i]) == falls || flows[i] == 0);
        }
    }

    // "counted in whole units, so that none is lost"
    private void noneIsLost(int[] flows, int[] heats, int[] counts) {
        int cells = x.count(1);
        for (int i = 0; i < cells; i++) is("HEAT of CELL " + i, x.cell(i, 1), heats[i] + flows[i] - flows[i + 1]);
        is("all HEAT", x.count(6), counts[2] + flows[0] - flows[cells]);
        is("IN", x.count(7), counts[3] + flows[0]);
        is("OUT", x.count(8), counts[4] + flows[cells]);
    }

    // "if a step is short enough no cell becomes warmer than the warmest ahead, nor colder than the coldest"
    private void staysBetween(long[] ahead) {
        long most = Long.MIN_VALUE;
        long least = Long.MAX_VALUE;
        for (long one : ahead) {
            most = Math.max(most, one);
            least = Math.min(least, one);
        }
        for (long one : degrees()) isTrue("no warmer and no colder than what was ahead", one <= most && one >= least);
    }

    // ---- in the end

    // "in the end it all comes to rest, falling evenly by what resists": but for the one unit that a FLOW is cut by
    private void comesToRest() {
        for (int i = 0; i < 240; i++) x.step(50);
        int cells = x.count(1);
        int most = x.flow(0);
        int least = x.flow(0);
        for (int i = 1; i <= cells; i++) {
            most = Math.max(most, x.flow(i));
            least = Math.min(least, x.flow(i));
        }
        isTrue("as much comes as goes, but for one unit: " + least + " .. " + most, most - least <= 1);
        // a FLOW of 1 falls by t times what resists
        long oneUnit = x.count(4) * WHOLE / x.resists(1) * x.resists(0);
        for (int i = 0; i < cells; i++) {
            long awry = WHOLE / x.cell(i, 3) * x.cell(i, 2) - rest(i);
            isTrue("CELL " + i + " is near its REST", Math.abs(awry) <= 2 * oneUnit);
        }
    }

    /** REST in parts of 1 by WHOLE, cut. */
    private long rest(int cell) {
        return (long) ((double) x.rest(cell, 0) / x.rest(cell, 1) * WHOLE);
    }

    private void is(String call, long got, long want) {
        due.is(text + ": " + call, got, want);
    }

    private void isTrue(String what, boolean so) {
        due.isTrue(text + ": " + what, so);
    }
}
