/**
 * Chapter 3 of the Terms and promises 7 to 9, 18, 20, 21: each sentence that names a bound has a method here, with the
 * last that still stands and the first that does not.
 */
final class FoundEdgeTest {
    private static final Due due = new Due("FoundEdgeTest");
    private static final int UNKNOWN = WallHeat.UNKNOWN, OUTSIDE = WallHeat.OUTSIDE, NOT = WallHeat.NOT, NONE = WallHeat.NONE;
    private static final int LOWEST = Integer.MIN_VALUE, HIGHEST = Integer.MAX_VALUE;
    private static final String SIX = "stuff a 1 20;stuff bb 2 19;stuff ccc 3 18;stuff dddd 4 17;stuff eeeee 5 16;stuff fffffff 6 15";
    private static final String PAIR = "wall 40;stuff a 2 3;stuff b 4 6;layer a 1;layer b 1;air 100 10;heat 0 60;heat 1 30";

    public static void main(String[] args) {
        stuffsAreThoseTold();
        stuffsAreToldInFourNumbers();
        bitsAreOfItsCells();
        cellsAreThoseTold();
        cellsAreToldInFourNumbers();
        restsAreOfThoseTold();
        untilIsAtOnce();
        untilIsOfDegreesOrMore();
        untilIsOfEachCell();
        untilIs200StepsAtMost();
        untilIsNoneIfAStepIsNotDone();
        untilIsOfDegrees0To999();
        swappedIsResistsOfAnother();
        swappedChangesNothing();
        gainIsOfOneStep();
        gainIsNotOfAStepNotDone();
        sameIsPairByPair();
        due.end();
    }

    // "UNKNOWN (no such STUFF, ..)"
    private static void stuffsAreThoseTold() {
        for (int stuff : new int[] {-1, 0, 1, 5, 6, LOWEST, HIGHEST}) due.is("stuff(" + stuff + ", 0) at first", new WallHeat().stuff(stuff, 0), UNKNOWN);
        WallHeat x = Due.told(SIX);
        for (int stuff = 0; stuff < 6; stuff++) due.is("stuff(" + stuff + ", 0)", x.stuff(stuff, 0), stuff + 1);
        for (int stuff : new int[] {-1, 6, 7, LOWEST, HIGHEST}) due.is("stuff(" + stuff + ", 0)", x.stuff(stuff, 0), UNKNOWN);
    }

    // "PASSES (what 0), HOLDS (1), letters of its WORD (2), CELLS of it (3, bits)"
    private static void stuffsAreToldInFourNumbers() {
        WallHeat x = Due.told(SIX);
        int[] lengths = {1, 2, 3, 4, 5, 7};
        for (int stuff = 0; stuff < 6; stuff++) {
            due.is("HOLDS of " + stuff, x.stuff(stuff, 1), 20 - stuff);
            due.is("letters of " + stuff, x.stuff(stuff, 2), lengths[stuff]);
            due.is("no CELLS of " + stuff, x.stuff(stuff, 3), 0);
            for (int what : new int[] {-1, 4, LOWEST, HIGHEST}) due.is("stuff(" + stuff + ", " + what + ")", x.stuff(stuff, what), OUTSIDE);
        }
    }

    // "CELLS of it (3, bits)": CELL 0 is 1, CELL 9 is 512
    private static void bitsAreOfItsCells() {
        due.is("CELL 0", Due.told("stuff a 1 1;layer a 1").stuff(0, 3), 1);
        due.is("all ten", Due.told("stuff a 1 1;layer a 9;layer a 1").stuff(0, 3), 1023);
        WallHeat x = Due.told("stuff a 1 1;stuff b 1 1;stuff c 1 1;layer a 1;layer b 8;layer a 1");
        due.is("CELLS 0 and 9", x.stuff(0, 3), 513);
        due.is("CELLS 1 to 8", x.stuff(1, 3), 510);
        due.is("no CELLS", x.stuff(2, 3), 0);
    }

    // "UNKNOWN (no such .. CELL ..)"
    private static void cellsAreThoseTold() {
        for (int cell : new int[] {-1, 0, 9, 10, LOWEST, HIGHEST}) due.is("cell(" + cell + ", 0) at first", new WallHeat().cell(cell, 0), UNKNOWN);
        due.is("cell(0, 0) of STUFFS without CELLS", Due.told(SIX).cell(0, 0), UNKNOWN);
        WallHeat x = Due.told(SIX + ";layer fffffff 9;layer bb 1");
        for (int cell = 0; cell < 10; cell++) due.is("cell(" + cell + ", 0)", x.cell(cell, 0), cell < 9 ? 5 : 1);
        for (int cell : new int[] {-1, 10, 11, LOWEST, HIGHEST}) {
            due.is("cell(" + cell + ", 0)", x.cell(cell, 0), UNKNOWN);
            due.is("rest(" + cell + ", 0)", x.rest(cell, 0), UNKNOWN);
            due.is("heat(" + cell + ", 0)", x.heat(cell, 0), UNKNOWN);
            due.is("until(" + cell + ", 0)", x.until(cell, 0), UNKNOWN);
            due.is("swapped(" + cell + ", 0, 0)", x.swapped(cell, 0, 0), UNKNOWN);
            due.is("gain(" + cell + ")", x.gain(cell), UNKNOWN);
        }
        for (int stuff : new int[] {-1, 6, 7, LOWEST, HIGHEST}) due.is("swapped(0, " + stuff + ", 0)", x.swapped(0, stuff, 0), UNKNOWN);
        // a CELL between others is not known because there are STUFFS of that number
        x = Due.told(SIX + ";layer a 2");
        due.is("cell(2, 0) of two", x.cell(2, 0), UNKNOWN);
        due.is("rest(2, 0) of two", x.rest(2, 0), UNKNOWN);
        due.is("heat(2, 0) of two", x.heat(2, 0), UNKNOWN);
        due.is("until(2, 0) of two", x.until(2, 0), UNKNOWN);
        due.is("swapped(2, 0, 0) of two", x.swapped(2, 0, 0), UNKNOWN);
        due.is("gain(2) of two", x.gain(2), UNKNOWN);
        due.is("swapped(1, 5, 1) of two", x.swapped(1, 5, 1), 6);
    }

    // "its STUFF (what 0), HEAT (1), DEGREES above (2), below (3)"
    private static void cellsAreToldInFourNumbers() {
        WallHeat x = Due.told("stuff a 1 20;stuff b 1 6;layer b 2;heat 0 9;heat 1 9999");
        int[][] want = {{1, 9, 3, 2}, {1, 9999, 3333, 2}};
        for (int cell = 0; cell < 2; cell++) {
            for (int what = 0; what < 4; what++) due.is("cell(" + cell + ", " + what + ")", x.cell(cell, what), want[cell][what]);
            for (int what : new int[] {-1, 4, LOWEST, HIGHEST}) due.is("cell(" + cell + ", " + what + ")", x.cell(cell, what), OUTSIDE);
        }
    }

    // "REST of a CELL. UNKNOWN; OUTSIDE: the part."
    private static void restsAreOfThoseTold() {
        WallHeat x = Due.told("stuff a 1 1;layer a 2;air 4 8");
        due.is("rest(0, 0)", x.rest(0, 0), 5);
        due.is("rest(0, 1)", x.rest(0, 1), 1);
        due.is("rest(1, 0)", x.rest(1, 0), 7);
        for (int part : new int[] {-1, 2, LOWEST, HIGHEST}) {
            due.is("rest(0, " + part + ")", x.rest(0, part), OUTSIDE);
            due.is("rest(2, " + part + ")", x.rest(2, part), UNKNOWN);
            due.is("swapped(0, 0, " + part + ")", x.swapped(0, 0, part), OUTSIDE);
            due.is("resists(" + part + ")", x.resists(part), OUTSIDE);
        }
    }

    // "the fewest STEPS (0 .. 200)": 0, if it is so already, whatever comes
    private static void untilIsAtOnce() {
        WallHeat x = Due.told("wall 4;stuff a 1 2;layer a 2;heat 0 19;air 999 0");
        due.is("until(0, 9)", x.until(0, 9), 0);
        due.is("until(0, 10)", x.until(0, 10), 1);
        due.is("until(1, 0)", x.until(1, 0), 0);
        x = Due.told("wall 1;stuff a 20 1;layer a 1;heat 0 9;air 999 999");
        due.is("until(0, 9) if no STEP is done", x.until(0, 9), 0);
        due.is("until(0, 10) if no STEP is done", x.until(0, 10), NONE);
    }

    // "DEGREES of g or more"
    private static void untilIsOfDegreesOrMore() {
        // by each STEP 1 comes from the left, and nothing goes: DEGREES go 0, 1 / 3, 2 / 3, 1, 4 / 3 ..
        WallHeat x = Due.told("wall 999;stuff a 1 3;layer a 1;air 998 2");
        int[] steps = {0, 3, 6};
        for (int g = 0; g < steps.length; g++) due.is("until(0, " + g + ")", x.until(0, g), steps[g]);
        // DEGREES go 0, 40, 0, 40: behind the first that is more they are less again
        x = Due.told("wall 1;stuff a 1 2;layer a 1;air 20 20");
        due.is("until(0, 40) to and fro", x.until(0, 40), 1);
        due.is("until(0, 41) to and fro", x.until(0, 41), NONE);
        due.is("until(0, 1) to and fro", x.until(0, 1), 1);
    }

    private static void untilIsOfEachCell() {
        WallHeat x = Due.told("wall 9;stuff a 2 1;layer a 9;layer a 1;air 900 0");
        for (int cell = 0; cell < 10; cell++) {
            int before = cell == 0 ? 0 : x.until(cell - 1, 1);
            int steps = x.until(cell, 1);
            due.isTrue("CELL " + cell + " is warm, but later than the one to its left", steps > before);
            WallHeat y = Due.told("wall 9;stuff a 2 1;layer a 9;layer a 1;air 900 0");
            for (int i = 1; i < steps; i++) y.step(1);
            due.is("one STEP ahead", y.cell(cell, 1), 0);
            y.step(1);
            due.isTrue("then", y.cell(cell, 1) >= 1);
        }
    }

    // "(0 .. 200); none"
    private static void untilIs200StepsAtMost() {
        // by each STEP 1 comes from the left, and nothing goes: 20 STEPS for 1 DEGREE
        for (int heat = 0; heat < 40; heat++) {
            WallHeat x = Due.told("wall 999;stuff a 1 20;layer a 1;air 998 5;heat 0 " + heat);
            for (int g = 9; g < 13; g++) {
                int steps = 20 * g - heat;
                due.is("until(0, " + g + ") from " + heat, x.until(0, g), steps > 200 ? NONE : steps);
            }
        }
    }

    // "none (also if a STEP is not done)"
    private static void untilIsNoneIfAStepIsNotDone() {
        // by 1 DEGREES go 0, 40, and would go to -80
        WallHeat x = Due.told("wall 1;stuff a 1 1;layer a 1;air 10 10");
        due.is("until(0, 40)", x.until(0, 40), 1);
        due.is("until(0, 41)", x.until(0, 41), NONE);
        // the other CELL is why the STEP is not done
        x = Due.told("wall 1;stuff a 1 1;stuff b 1 20;layer a 1;layer b 1;air 10 10;heat 0 100");
        due.is("gain(1)", x.gain(1), NOT);
        due.is("until(1, 1)", x.until(1, 1), NONE);
    }

    // "UNTIL (g 0 .. 999)"
    private static void untilIsOfDegrees0To999() {
        WallHeat x = Due.told("wall 4;stuff a 1 1;layer a 1;air 999 999");
        due.is("until(0, 0)", x.until(0, 0), 0);
        due.is("until(0, 998)", x.until(0, 998), 1);
        for (int g : new int[] {-1, 1000, LOWEST, HIGHEST}) {
            due.is("until(0, " + g + ")", x.until(0, g), OUTSIDE);
            due.is("until(1, " + g + ")", x.until(1, g), UNKNOWN);
        }
        x.heat(0, 999);
        due.is("until(0, 999)", x.until(0, 999), 0);
        // 20 times 999 is within the HEAT that there may be
        x = Due.told("wall 4;stuff a 20 20;layer a 1;heat 0 9999");
        x.heat(0, 9980);
        due.is("until(0, 999) of 19979", x.until(0, 999), NONE);
        x.heat(0, 1);
        due.is("until(0, 999) of 19980", x.until(0, 999), 0);
    }

    private static long divisor(long a, long b) {
        return b == 0 ? a : divisor(b, a % b);
    }

    // "SWAPPED: RESISTS, were a CELL of another STUFF"
    private static void swappedIsResistsOfAnother() {
        for (int cell = 0; cell < 10; cell++) {
            WallHeat x = Due.told(SIX + ";layer dddd 9;layer dddd 1");
            for (int stuff = 0; stuff < 6; stuff++) {
                // nine by 4 and one by k: (9 k + 4) by 4 k
                int k = stuff + 1;
                long most = divisor(9 * k + 4, 4 * k);
                due.is("above", x.swapped(cell, stuff, 0), (9 * k + 4) / most);
                due.is("below", x.swapped(cell, stuff, 1), 4 * k / most);
            }
        }
        WallHeat x = Due.told("stuff a 1 1;stuff b 20 1;layer b 1");
        due.is("above of one CELL", x.swapped(0, 0, 0), 1);
        due.is("below of one CELL", x.swapped(0, 0, 1), 1);
        due.is("above of its own STUFF", x.swapped(0, 1, 0), 1);
        due.is("below of its own STUFF", x.swapped(0, 1, 1), 20);
    }

    // "(nothing changes)"; "(its HEAT of no matter)"
    private static void swappedChangesNothing() {
        WallHeat x = Due.told(PAIR);
        due.is("swapped(0, 1, 0)", x.swapped(0, 1, 0), 1);
        due.is("swapped(0, 1, 1)", x.swapped(0, 1, 1), 2);
        due.is("its STUFF", x.cell(0, 0), 0);
        due.is("its HEAT", x.cell(0, 1), 60);
        due.is("RESISTS, above", x.resists(0), 3);
        due.is("RESISTS, below", x.resists(1), 4);
        x.heat(0, 9000);
        due.is("swapped(0, 1, 1) of more HEAT", x.swapped(0, 1, 1), 2);
    }

    // "GAIN: by how much HEAT of a CELL would be more behind one STEP"
    private static void gainIsOfOneStep() {
        WallHeat x = Due.told("wall 2;stuff a 1 1;layer a 3;air 4 0;heat 0 9;heat 1 7;heat 2 8");
        int[] want = {-6, 1, -8};
        for (int i = 0; i < 3; i++) due.is("gain(" + i + ")", x.gain(i), want[i]);
        for (int i = 0; i < 3; i++) due.is("gain(" + i + ") again", x.gain(i), want[i]);
        due.is("no STEP was", x.count(12), 0);
        due.is("nothing went", x.count(7), 0);
        due.is("nothing can be undone", x.count(14), 0);
        x.step(1);
        due.is("HEAT behind it", x.cell(0, 1), 3);
        x = Due.told("stuff a 1 1;layer a 1");
        due.is("gain(0) of nothing", x.gain(0), 0);
        x = Due.told("wall 1;stuff a 10 20;layer a 1;air 500 500");
        due.is("gain(0) of the most", x.gain(0), 20000);
        x.step(1);
        x.air(0, 0);
        x.air(1, 999);
        due.is("gain(0) to below 0", x.gain(0), NOT);
        x.heat(0, -20);
        due.is("gain(0) of the least", x.gain(0), -19980);
    }

    // "NOT: that STEP would not be done"
    private static void gainIsNotOfAStepNotDone() {
        WallHeat x = Due.told("wall 2;stuff a 1 1;layer a 2;heat 0 2");
        // 2 to the air, 1 to the other
        due.is("gain(0)", x.gain(0), NOT);
        due.is("gain(1)", x.gain(1), NOT);
        due.is("gain(2)", x.gain(2), UNKNOWN);
        due.is("gain(-1)", x.gain(-1), UNKNOWN);
        x.air(0, 1);
        due.is("gain(0) of another air", x.gain(0), -2);
        due.is("gain(1) of another air", x.gain(1), 1);
        x.undo();
        due.is("gain(0) again", x.gain(0), NOT);
        x.pace(5);
        due.is("gain(0) by another STEP", x.gain(0), 0);
    }

    // "SAME: CELLS that are alike in STUFF and HEAT, pair by pair: how many pairs"
    private static void sameIsPairByPair() {
        due.is("SAME without CELLS", new WallHeat().count(11), 0);
        for (int n = 1; n <= 9; n++) due.is("SAME of " + n, Due.told("stuff a 1 1;layer a " + n).count(11), n * (n - 1) / 2);
        due.is("SAME of ten", Due.told("stuff a 1 1;layer a 9;layer a 1").count(11), 45);
        // alike in all but the STUFF's number
        due.is("SAME of like STUFFS", Due.told("stuff a 1 1;stuff b 1 1;layer a 1;layer b 1").count(11), 0);
        due.is("SAME of unlike HEAT", Due.told("stuff a 1 1;layer a 2;heat 0 1").count(11), 0);
        // alike in DEGREES
        due.is("SAME of like DEGREES", Due.told("stuff a 1 1;stuff b 1 2;layer a 1;layer b 1;heat 0 5;heat 1 10").count(11), 0);
        WallHeat x = Due.told("stuff a 1 1;layer a 9;layer a 1;heat 0 7;heat 9 7");
        due.is("SAME of the first and the last, and of eight", x.count(11), 1 + 28);
        x.heat(9, 1);
        due.is("SAME of eight", x.count(11), 28);
    }
}
