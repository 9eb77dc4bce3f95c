/**
 * Chapter 2 of the Terms and promises 10 to 17 and 19, with what promise 29 tells of them: each sentence that names a
 * bound has a method here, with the last that still stands and the first that does not.
 */
final class StepEdgeTest {
    private static final Due due = new Due("StepEdgeTest");
    private static final int UNKNOWN = WallHeat.UNKNOWN, OUTSIDE = WallHeat.OUTSIDE, NOT = WallHeat.NOT, NONE = WallHeat.NONE;
    private static final String PAIR = "wall 40;stuff a 2 3;stuff b 4 6;layer a 1;layer b 1;air 100 10;heat 0 60;heat 1 30";
    private static final String[] WALLS = {
        PAIR,
        "wall 7;stuff a 20 1;layer a 9;layer a 1;air 20 0;heat 4 20;heat 9 1",
        "wall 3;stuff a 1 20;stuff b 20 1;stuff c 7 5;layer a 1;layer b 2;layer c 1;layer b 1;air 0 999;heat 0 9999",
        "wall 99;stuff a 3 7;layer a 1;air 999 998",
        "wall 11;stuff a 19 13;stuff b 17 11;layer a 3;layer b 3;layer a 3;air 500 0;heat 2 4000;heat 7 9000"};

    public static void main(String[] args) {
        degreesAreAFraction();
        flowIsCutTowardsNone();
        flowIsCutButOnce();
        flowIsBetweenEachTwoNeighbours();
        flowIsTheNextOneAlsoIfNotDone();
        allIsReckonedByWhatIsAhead();
        inAndOutAreOfTheAirsAlone();
        noHeatIsLost();
        heatStaysNoLessThanNone();
        heatStaysNoMoreThan20000();
        notDoneForAllIfForOne();
        stepsAreOneToFifty();
        stepStopsAheadOfOneNotDone();
        safeIsLeast();
        safeIsForEachCell();
        safeIsOneWithoutCells();
        safeKeepsBetweenTheWarmestAndTheColdest();
        warmestAndColdest();
        restFallsEvenly();
        resistsOfAll();
        heatIsChangedBy9999AtMost();
        heatIsToldToBeWithin();
        airsChange();
        paceChanges();
        undoneIsTheLatest();
        undoneAreFourCallsAlone();
        undoneAreEightAtMost();
        keptAreSix();
        keptAreTwo();
        backForgetsWhatCouldBeUndone();
        backIsNotBehindAText();
        countsAreSixteen();
        due.end();
    }

    private static void heats(String when, WallHeat x, int... want) {
        for (int i = 0; i < want.length; i++) due.is(when + ": HEAT of CELL " + i, x.cell(i, 1), want[i]);
    }

    private static long divisor(long a, long b) {
        return b == 0 ? a : divisor(b, a % b);
    }

    private static void fraction(String what, long gotAbove, long gotBelow, long above, long below) {
        long most = divisor(above, below);
        due.is(what + ", above", gotAbove, above / most);
        due.is(what + ", below", gotBelow, below / most);
    }

    /** DEGREES of all CELLS just so, whatever they hold: HEAT is told up to 9999, then more by heat(). */
    private static void become(WallHeat x, int cell, int heat) {
        while (x.cell(cell, 1) != heat) x.heat(cell, Math.max(-9999, Math.min(9999, heat - x.cell(cell, 1))));
    }

    // "DEGREES of a CELL: h by c (a fraction)"; "A fraction is told in lowest terms: above, below (1; 1 or more)"
    private static void degreesAreAFraction() {
        for (int c = 1; c <= 20; c++) {
            WallHeat x = Due.told("stuff a 1 " + c + ";layer a 1");
            due.is("no DEGREES, above", x.cell(0, 2), 0);
            due.is("no DEGREES, below", x.cell(0, 3), 1);
            for (int h : new int[] {1, c, c + 1, 2 * c, 12, 360, 19999, 20000}) {
                become(x, 0, h);
                fraction("DEGREES of " + h + " by " + c, x.cell(0, 2), x.cell(0, 3), h, c);
            }
        }
    }

    // "by t, cut towards 0"
    private static void flowIsCutTowardsNone() {
        WallHeat x = Due.told("stuff a 1 1;layer a 1;air 5 7");
        int[] paces = {1, 2, 3, 4, 5, 6, 7, 8, 9, 10, 11, 13, 14, 15, 999};
        for (int t : paces) {
            x.pace(t);
            due.is("FLOW to the right by " + t, x.flow(0), 10 / t);
            due.is("FLOW to the left by " + t, x.flow(1), -(14 / t));
            due.is("GAIN by " + t, x.gain(0), 10 / t + 14 / t);
        }
    }

    // 3 / 2 DEGREES less 0, times 4 / 3 PASSES, is 2 just so, whichever of them were cut alone
    private static void flowIsCutButOnce() {
        WallHeat x = Due.told("wall 1;stuff a 1 2;stuff b 2 1;layer a 1;layer b 1;heat 0 3");
        due.is("FLOW by 1", x.flow(1), 2);
        x.pace(2);
        due.is("FLOW by 2", x.flow(1), 1);
        x.pace(3);
        due.is("FLOW by 3", x.flow(1), 0);
        x = Due.told("wall 1;stuff a 1 2;stuff b 2 1;layer b 1;layer a 1;heat 1 3");
        due.is("FLOW to the left by 1", x.flow(1), -2);
        x.pace(2);
        due.is("FLOW to the left by 2", x.flow(1), -1);
        // 7 / 3 less 3 / 2 is 5 / 6, and 2 * 3 * 2 / 5 is 12 / 5: together 2
        x = Due.told("wall 1;stuff a 3 3;stuff b 2 2;layer a 1;layer b 1;heat 0 7;heat 1 3");
        due.is("FLOW of two fractions", x.flow(1), 2);
    }

    // "2 k of the one times k of the other, by both k together; between a CELL and the air beside it: 2 k"
    private static void flowIsBetweenEachTwoNeighbours() {
        WallHeat x = Due.told("wall 1;stuff a 3 1;stuff b 6 1;layer a 1;layer b 2;layer a 1;air 40 90;heat 0 10;heat 1 20;heat 2 50");
        int[] want = {30 * 6, -10 * 4, -30 * 6, 50 * 4, -90 * 6};
        for (int i = 0; i < want.length; i++) due.is("flow(" + i + ")", x.flow(i), want[i]);
        due.is("flow(-1)", x.flow(-1), OUTSIDE);
        due.is("flow(5)", x.flow(5), OUTSIDE);
        x = Due.told("wall 1;stuff a 3 1;layer a 9;layer a 1;air 0 1;heat 9 9");
        due.is("flow(10) of ten CELLS", x.flow(10), 8 * 6);
        due.is("flow(9) of ten CELLS", x.flow(9), -9 * 3);
        due.is("flow(11) of ten CELLS", x.flow(11), OUTSIDE);
        x = Due.told("wall 1;stuff a 3 1;layer a 1;air 5 1;heat 0 2");
        due.is("flow(0) of one CELL", x.flow(0), 3 * 6);
        due.is("flow(1) of one CELL", x.flow(1), 6);
        due.is("flow(2) of one CELL", x.flow(2), OUTSIDE);
        x = Due.told("stuff a 3 1");
        due.is("flow(0) without CELLS", x.flow(0), NOT);
        due.is("flow(1) without CELLS", x.flow(1), OUTSIDE);
    }

    // "as it would be by the next STEP"
    private static void flowIsTheNextOneAlsoIfNotDone() {
        WallHeat x = Due.told("wall 1;stuff a 20 1;layer a 1;air 999 0");
        due.is("step(1)", x.step(1), 0);
        due.is("flow(0)", x.flow(0), 999 * 40);
        x.air(0, 7);
        due.is("flow(0) by another air", x.flow(0), 7 * 40);
        x.heat(0, 5);
        due.is("flow(0) by another HEAT", x.flow(0), 2 * 40);
        x.pace(9);
        due.is("flow(0) by another STEP", x.flow(0), 80 / 9);
        due.is("flow(1)", x.flow(1), 200 / 9);
    }

    // "all reckoned by what is so ahead of the STEP"
    private static void allIsReckonedByWhatIsAhead() {
        // PASSES are 2 at the airs, 1 between the CELLS
        WallHeat x = Due.told("wall 1;stuff a 1 1;layer a 3;air 4 0;heat 0 9;heat 1 7;heat 2 8");
        due.is("step(1)", x.step(1), 0);
        x.pace(2);
        // FLOWS -5, 1, 0 (-1 / 2), 8
        due.is("step(1) by 2", x.step(1), 1);
        heats("behind", x, 9 - 5 - 1, 7 + 1, 8 - 8);
    }

    // "IN: what came from the left air, less what went there, in all STEPS; OUT: what went to the right air, less .."
    private static void inAndOutAreOfTheAirsAlone() {
        WallHeat x = Due.told("wall 4;stuff a 1 2;layer a 1;air 10 10;heat 0 40");
        // FLOWS -5 and 5
        x.step(1);
        due.is("IN of what went to the left", x.count(7), -5);
        due.is("OUT of what went to the right", x.count(8), 5);
        x.heat(0, -30);
        due.is("IN of no step", x.count(7), -5);
        due.is("OUT of no step", x.count(8), 5);
        // FLOWS 5 and -5: DEGREES were 0
        due.is("HEAT of none", x.cell(0, 1), 0);
        x.step(1);
        due.is("IN of both", x.count(7), 0);
        due.is("OUT of both", x.count(8), 0);
        x.air(1, 0);
        // 10 by 2: FLOWS 2 and 2
        x.step(1);
        due.is("IN of three", x.count(7), 2);
        due.is("OUT of three", x.count(8), 2);
    }

    // "as much as .., counted in whole units, so that none is lost"
    private static void noHeatIsLost() {
        for (String wall : WALLS) {
            WallHeat x = Due.told(wall);
            x.pace(x.count(5));
            for (int i = 0; i < 4; i++) {
                int before = x.count(6) - x.count(7) + x.count(8);
                due.is("STEPS done", x.step(30), 30);
                due.is("all HEAT less IN, more OUT", x.count(6) - x.count(7) + x.count(8), before);
            }
        }
    }

    private static void done(String text, int heat, String what) {
        WallHeat x = Due.told(text);
        due.is("GAIN to " + what, x.gain(0), heat - x.cell(0, 1));
        due.is("STEP to " + what, x.step(1), 1);
        due.is("HEAT " + what, x.cell(0, 1), heat);
    }

    private static void notDone(String what, WallHeat x) {
        int[] before = new int[16];
        int[] heats = new int[x.count(1)];
        for (int i = 0; i < before.length; i++) before[i] = x.count(i);
        for (int i = 0; i < heats.length; i++) heats[i] = x.cell(i, 1);
        due.is("GAIN to " + what, x.gain(0), NOT);
        due.is("UNTIL by a STEP to " + what, x.until(0, 999), x.cell(0, 1) >= 999 * x.stuff(x.cell(0, 0), 1) ? 0 : NONE);
        due.is("STEP to " + what, x.step(1), 0);
        for (int i = 0; i < before.length; i++) if (i != 14) due.is(what + ": count(" + i + ")", x.count(i), before[i]);
        heats(what, x, heats);
    }

    // "HEAT stays 0 .. 20000": 0 is done, what is below is not
    private static void heatStaysNoLessThanNone() {
        done("wall 2;stuff a 1 1;layer a 1;heat 0 1;air 0 1", 0, "0");
        notDone("-1", Due.told("wall 2;stuff a 1 1;layer a 1;heat 0 1;air 0 0"));
        notDone("-2", Due.told("wall 1;stuff a 1 1;layer a 1;heat 0 2;air 0 2"));
        done("wall 3;stuff a 1 1;layer a 1;heat 0 1;air 0 0", 1, "1");
    }

    /** CELL i of 20000, where each STUFF a holds 20 and the airs are of 999, and a b of 1 is beside it. */
    private static WallHeat nearlyFull(String layers, int full, int other, int warm, int colder) {
        WallHeat x = Due.told("wall 3;stuff a 1 20;stuff b 1 1;" + layers + ";air 999 999");
        if (colder >= 0) become(x, colder, 19990);
        become(x, full, 20000);
        become(x, other, warm);
        return x;
    }

    // "HEAT stays 0 .. 20000": 20000 is done, what is above is not
    private static void heatStaysNoMoreThan20000() {
        // 10000 and 10000 come from the airs
        done("wall 1;stuff a 10 20;layer a 1;air 500 500", 20000, "20000");
        notDone("20020", Due.told("wall 1;stuff a 10 20;layer a 1;air 500 501"));
        // 1002 less 1000 DEGREES, by 3, is cut to 0; 1003 less 1000 is 1
        for (int warm = 1002; warm <= 1003; warm++) {
            WallHeat[] walls = {
                nearlyFull("layer a 1;layer b 1", 0, 1, warm, NONE),
                nearlyFull("layer b 1;layer a 1", 1, 0, warm, NONE),
                nearlyFull("layer a 2;layer b 1", 1, 2, warm, 0)};
            int[] full = {0, 1, 1};
            for (int i = 0; i < walls.length; i++) {
                if (warm == 1003) {
                    notDone("20001", walls[i]);
                } else {
                    due.is("GAIN at 20000", walls[i].gain(full[i]), 0);
                    due.is("STEP at 20000", walls[i].step(1), 1);
                    due.is("HEAT 20000", walls[i].cell(full[i], 1), 20000);
                }
            }
        }
    }

    // "a STEP by which some CELL's would not is NOT done"
    private static void notDoneForAllIfForOne() {
        for (int cell = 0; cell < 10; cell++) {
            // the CELL alone would lose more than it has: 12 DEGREES of 240 by 20 each, to both sides
            WallHeat x = Due.told("wall 4;stuff a 20 20;layer a 9;layer a 1");
            x.pace(x.count(5));
            for (int i = 0; i < 10; i++) x.heat(i, 400);
            x.air(0, 20);
            x.air(1, 20);
            x.heat(cell, 200);
            x.pace(1);
            x.step(1);
            boolean edge = cell == 0 || cell == 9;
            // 10 DEGREES more, times 20 and 20, or 20 and 40
            due.is("STEP of CELL " + cell, x.count(12), 1);
            due.is("HEAT of CELL " + cell, x.cell(cell, 1), edge ? 0 : 200);
            x.undo();
            x.heat(cell, -200);
            x.heat(cell, edge ? 201 : 401);
            due.is("HEAT that is too much", x.cell(cell, 1), edge ? 601 : 801);
            notDone("below 0 in CELL " + cell, x);
        }
    }

    // "n STEPS (1 .. 50): how many were done"
    private static void stepsAreOneToFifty() {
        WallHeat x = Due.told(PAIR);
        due.is("step(0)", x.step(0), OUTSIDE);
        due.is("step(51)", x.step(51), OUTSIDE);
        due.is("step(-1)", x.step(-1), OUTSIDE);
        due.is("no STEPS", x.count(12), 0);
        due.is("step(1)", x.step(1), 1);
        due.is("one STEP", x.count(12), 1);
        due.is("step(50)", x.step(50), 50);
        due.is("51 STEPS", x.count(12), 51);
        WallHeat one = Due.told(PAIR);
        WallHeat other = Due.told(PAIR);
        for (int i = 0; i < 50; i++) one.step(1);
        other.step(50);
        for (int i = 0; i < 13; i++) due.is("50 at once: count(" + i + ")", other.count(i), one.count(i));
        heats("50 at once", other, one.cell(0, 1), one.cell(1, 1));
        due.is("step(1) of STUFFS without CELLS", Due.told("stuff a 1 1").step(1), NOT);
        due.is("step(50) of STUFFS without CELLS", Due.told("stuff a 1 1").step(50), NOT);
    }

    // "(it stops ahead of one that is not)"
    private static void stepStopsAheadOfOneNotDone() {
        // by 1 DEGREES go 0, 40, -80; IN and OUT are of the one that is done
        WallHeat x = Due.told("wall 1;stuff a 1 1;layer a 1;air 10 10");
        due.is("step(50)", x.step(50), 1);
        heats("stopped", x, 40);
        due.is("STEPS", x.count(12), 1);
        due.is("IN", x.count(7), 20);
        due.is("OUT", x.count(8), -20);
        due.is("undoable", x.count(14), 1);
        due.is("step(50) again", x.step(50), 0);
        due.is("step(1) again", x.step(1), 0);
        heats("stopped again", x, 40);
        due.is("STEPS yet", x.count(12), 1);
        due.is("undo() of what did nothing", x.undo(), 2);
        x.undo();
        heats("undone", x, 40);
        due.is("undo() of what did one", x.undo(), 0);
        heats("all undone", x, 0);
    }

    private static void safe(String text, int want) {
        due.is("SAFE of " + text, Due.told(text).count(5), want);
        due.is("pace() of " + text, Due.told(text).pace(999), want);
    }

    // "SAFE: the least t by which .. PASSES to its left and to its right together are not more than t times c (1 .. "
    private static void safeIsLeast() {
        for (int k = 1; k <= 20; k++) {
            for (int c = 1; c <= 20; c++) safe("stuff a " + k + " " + c + ";layer a 1", Math.max(1, (4 * k + c - 1) / c));
        }
        // 2 k and k: 12 by 6 is 2 just so, 12 by 5 is not
        safe("stuff a 4 6;layer a 2", 2);
        safe("stuff a 4 5;layer a 2", 3);
        safe("stuff a 4 12;layer a 2", 1);
        safe("stuff a 4 13;layer a 2", 1);
        safe("stuff a 4 11;layer a 2", 2);
    }

    // "for each CELL": the first, one between, the last
    private static void safeIsForEachCell() {
        // beside air and a 20: 2 and 40 / 21 by 1, so 4; without it 2 and 1, or 1 and 1
        safe("stuff a 1 1;layer a 9", 3);
        safe("stuff a 1 20;stuff b 1 1;layer b 1;layer a 8", 3);
        safe("stuff a 1 20;stuff b 1 1;layer a 8;layer b 1", 3);
        safe("stuff a 1 20;stuff b 1 1;layer a 4;layer b 1;layer a 4", 2);
        safe("stuff a 20 20;stuff b 1 1;layer b 1;layer a 1", 4);
        safe("stuff a 20 20;stuff b 1 1;layer a 1;layer b 1", 4);
        safe("stuff a 20 20;stuff b 1 1;layer a 1;layer b 1;layer a 1", 4);
        // 2 * 2 * 1 / 3 twice is 8 / 3; 6 / 5 of 3 and 2 twice is 24 / 5
        safe("stuff a 1 20;stuff b 2 1;layer a 1;layer b 1;layer a 1", 3);
        safe("stuff a 3 20;stuff b 2 1;layer a 1;layer b 1;layer a 1", 5);
        safe("stuff a 20 1;layer a 1", 80);
    }

    // "without CELLS 1"
    private static void safeIsOneWithoutCells() {
        due.is("SAFE at first", new WallHeat().count(5), 1);
        due.is("pace() at first", new WallHeat().pace(999), 1);
        safe("stuff a 20 1", 1);
        safe("stuff a 20 1;layer a 1;wall 9", 1);
    }

    /** All DEGREES in parts of 1 by 232792560, which each HOLDS divides: the most (sign 1) or the least (sign -1). */
    private static long most(WallHeat x, int sign) {
        long most = sign * (sign > 0 ? Math.max(x.count(2), x.count(3)) : Math.min(x.count(2), x.count(3))) * 232792560L;
        for (int i = 0; i < x.count(1); i++) most = Math.max(most, sign * (232792560L / x.stuff(x.cell(i, 0), 1)) * x.cell(i, 1));
        return sign * most;
    }

    // "if a step is short enough no cell becomes warmer than the warmest ahead, nor colder than the coldest"
    private static void safeKeepsBetweenTheWarmestAndTheColdest() {
        for (String wall : WALLS) {
            for (int i = 0; i < 10; i++) {
                WallHeat x = Due.told(wall);
                x.pace(x.count(5));
                if (i > 0) x.step(i);
                long warmest = most(x, 1);
                long coldest = most(x, -1);
                due.is("a STEP that is short enough", x.step(1), 1);
                due.isTrue("not warmer: " + wall, most(x, 1) <= warmest);
                due.isTrue("not colder: " + wall, most(x, -1) >= coldest);
            }
        }
    }

    private static void warmest(String heats, int most, int least) {
        WallHeat x = Due.told("stuff a 1 2;stuff b 1 4;stuff c 1 19;layer a 2;layer b 2;layer c 1;air 999 0;" + heats);
        due.is("WARMEST of " + heats, x.count(9), most);
        due.is("COLDEST of " + heats, x.count(10), least);
    }

    // "WARMEST, COLDEST: CELLS of the most, the least DEGREES, of like ones the least number"; "(NONE)"
    private static void warmestAndColdest() {
        due.is("WARMEST without CELLS", Due.told("stuff a 1 1;air 9 9").count(9), NONE);
        due.is("COLDEST without CELLS", Due.told("stuff a 1 1;air 9 9").count(10), NONE);
        due.is("WARMEST of one", Due.told("stuff a 1 1;layer a 1").count(9), 0);
        due.is("COLDEST of one", Due.told("stuff a 1 1;layer a 1").count(10), 0);
        due.is("WARMEST of ten", Due.told("stuff a 1 1;layer a 9;layer a 1").count(9), 0);
        due.is("COLDEST of ten", Due.told("stuff a 1 1;layer a 9;layer a 1").count(10), 0);
        due.is("WARMEST is the last", Due.told("stuff a 1 1;layer a 9;layer a 1;heat 9 1").count(9), 9);
        due.is("COLDEST is the first", Due.told("stuff a 1 1;layer a 9;layer a 1;heat 9 1").count(10), 0);
        warmest("heat 4 1", 4, 0);
        // 9 DEGREES each
        warmest("heat 0 18;heat 1 18;heat 2 36;heat 3 36;heat 4 171", 0, 0);
        warmest("heat 0 17;heat 1 18;heat 2 36;heat 3 36;heat 4 171", 1, 0);
        warmest("heat 0 18;heat 1 17;heat 2 36;heat 3 36;heat 4 171", 0, 1);
        warmest("heat 0 18;heat 1 18;heat 2 37;heat 3 37;heat 4 171", 2, 0);
        warmest("heat 0 18;heat 1 18;heat 2 35;heat 3 35;heat 4 171", 0, 2);
        // by a little: 18 / 2, 171 / 19 and one more or less
        warmest("heat 0 18;heat 1 18;heat 2 36;heat 3 36;heat 4 172", 4, 0);
        warmest("heat 0 18;heat 1 18;heat 2 36;heat 3 36;heat 4 170", 0, 4);
        // more HEAT is not more DEGREES
        warmest("heat 0 40;heat 1 30;heat 2 70;heat 3 50;heat 4 190", 0, 4);
    }

    // "REST: .. r and (l less r) times what resists to its right, by what resists in all"
    private static void restFallsEvenly() {
        WallHeat x = Due.told("stuff a 2 3;stuff b 4 6;layer a 1;layer b 1");
        int[][] airs = {{0, 0}, {999, 999}, {1, 1}, {999, 0}, {0, 999}, {7, 8}, {8, 7}, {100, 10}};
        for (int[] air : airs) {
            x.air(0, air[0]);
            x.air(1, air[1]);
            // 1 / 4, 3 / 8 and 1 / 8 resist: 4 and 1 of 6 to the right
            fraction("REST of CELL 0", x.rest(0, 0), x.rest(0, 1), 6 * air[1] + 4 * (air[0] - air[1]), 6);
            fraction("REST of CELL 1", x.rest(1, 0), x.rest(1, 1), 6 * air[1] + air[0] - air[1], 6);
        }
        x = Due.told("stuff a 7 1;layer a 1;air 5 8");
        fraction("REST of one CELL", x.rest(0, 0), x.rest(0, 1), 13, 2);
        x = Due.told("stuff a 7 1;layer a 9;layer a 1;air 0 999");
        for (int i = 0; i < 10; i++) fraction("REST of CELL " + i, x.rest(i, 0), x.rest(i, 1), 999L * (2 * i + 1), 20);
        x.heat(3, 500);
        fraction("REST has no matter of HEAT", x.rest(3, 0), x.rest(3, 1), 999L * 7, 20);
    }

    // "RESISTS: of all neighbours together (a fraction)"
    private static void resistsOfAll() {
        for (int k = 1; k <= 20; k++) {
            for (int n = 1; n <= 10; n++) {
                WallHeat x = Due.told("stuff a " + k + " 3" + (n > 9 ? ";layer a 9;layer a 1" : ";layer a " + n));
                fraction("RESISTS of " + n + " by " + k, x.resists(0), x.resists(1), n, k);
            }
        }
        WallHeat x = Due.told("stuff a 2 3;stuff b 3 6;stuff c 19 1;layer a 2;layer b 1;layer c 1");
        fraction("RESISTS of three STUFFS", x.resists(0), x.resists(1), 114 + 38 + 6, 114);
        due.is("resists(-1)", x.resists(-1), OUTSIDE);
        due.is("resists(2)", x.resists(2), OUTSIDE);
        due.is("resists(0) without CELLS", Due.told("stuff a 1 1").resists(0), NOT);
        due.is("resists(1) without CELLS", Due.told("stuff a 1 1").resists(1), NOT);
        due.is("resists(2) without CELLS", Due.told("stuff a 1 1").resists(2), OUTSIDE);
    }

    // "HEAT of a CELL is v more (-9999 .. 9999)"
    private static void heatIsChangedBy9999AtMost() {
        WallHeat x = Due.told("stuff a 1 1;layer a 2;heat 0 5000;heat 1 9999");
        due.is("heat(1, -9999)", x.heat(1, -9999), 0);
        due.is("heat(1, 9999)", x.heat(1, 9999), 9999);
        due.is("heat(0, 10000)", x.heat(0, 10000), OUTSIDE);
        due.is("heat(0, -10000)", x.heat(0, -10000), OUTSIDE);
        due.is("heat(0, 0)", x.heat(0, 0), 5000);
        due.is("heat(0, -1)", x.heat(0, -1), 4999);
        due.is("heat(0, 1)", x.heat(0, 1), 5000);
        heats("heated", x, 5000, 9999);
        due.is("undoable", x.count(14), 5);
    }

    // "NOT: it would not be 0 .. 20000"
    private static void heatIsToldToBeWithin() {
        WallHeat x = Due.told("stuff a 1 1;layer a 2;heat 0 9999;heat 1 9999");
        due.is("heat(1, 9999)", x.heat(1, 9999), 19998);
        due.is("heat(1, 3)", x.heat(1, 3), NOT);
        due.is("heat(1, 2)", x.heat(1, 2), 20000);
        due.is("heat(1, 1)", x.heat(1, 1), NOT);
        due.is("heat(1, 9999) of 20000", x.heat(1, 9999), NOT);
        due.is("heat(1, 0) of 20000", x.heat(1, 0), 20000);
        due.is("heat(0, -9998)", x.heat(0, -9998), 1);
        due.is("heat(0, -2)", x.heat(0, -2), NOT);
        due.is("heat(0, -1)", x.heat(0, -1), 0);
        due.is("heat(0, -1) of 0", x.heat(0, -1), NOT);
        due.is("heat(0, 0) of 0", x.heat(0, 0), 0);
        heats("heated", x, 0, 20000);
        due.is("undoable", x.count(14), 6);
    }

    // "The left air (side 0), the right one (1) has DEGREES g (0 .. 999): what they were."
    private static void airsChange() {
        WallHeat x = Due.told("air 3 4");
        due.is("air(0, 999)", x.air(0, 999), 3);
        due.is("r stays", x.count(3), 4);
        due.is("air(1, 999)", x.air(1, 999), 4);
        due.is("air(0, 0)", x.air(0, 0), 999);
        due.is("air(1, 0)", x.air(1, 0), 999);
        due.is("air(0, 1000)", x.air(0, 1000), OUTSIDE);
        due.is("air(1, 1000)", x.air(1, 1000), OUTSIDE);
        due.is("air(0, -1)", x.air(0, -1), OUTSIDE);
        due.is("air(1, -1)", x.air(1, -1), OUTSIDE);
        due.is("air(-1, 0)", x.air(-1, 0), OUTSIDE);
        due.is("air(2, 0)", x.air(2, 0), OUTSIDE);
        due.is("l", x.count(2), 0);
        due.is("r", x.count(3), 0);
        due.is("air(0, 0) of 0", x.air(0, 0), 0);
        due.is("undoable", x.count(14), 5);
    }

    // "STEP is 1 by t (1 .. 999): SAFE."
    private static void paceChanges() {
        WallHeat x = Due.told("stuff a 5 1;layer a 1");
        for (int t : new int[] {1, 2, 19, 20, 21, 998, 999}) {
            due.is("pace(" + t + ")", x.pace(t), 20);
            due.is("t", x.count(4), t);
        }
        due.is("pace(0)", x.pace(0), OUTSIDE);
        due.is("pace(1000)", x.pace(1000), OUTSIDE);
        due.is("pace(-1)", x.pace(-1), OUTSIDE);
        due.is("t stays", x.count(4), 999);
        due.is("undoable", x.count(14), 7);
    }

    // "The latest step(), heat(), air(), pace() is undone .. : how many can be undone yet. NOT: none."
    private static void undoneIsTheLatest() {
        WallHeat x = Due.told(PAIR);
        due.is("undo() of none", x.undo(), NOT);
        x.step(1);
        x.heat(0, 1);
        x.air(0, 2);
        x.air(1, 3);
        x.pace(4);
        due.is("undo() of pace()", x.undo(), 4);
        due.is("t", x.count(4), 40);
        due.is("r yet", x.count(3), 3);
        due.is("undo() of air(1)", x.undo(), 3);
        due.is("r", x.count(3), 10);
        due.is("l yet", x.count(2), 2);
        due.is("undo() of air(0)", x.undo(), 2);
        due.is("l", x.count(2), 100);
        heats("yet", x, 68, 32);
        due.is("undo() of heat()", x.undo(), 1);
        heats("heat() undone", x, 67, 32);
        due.is("STEPS yet", x.count(12), 1);
        due.is("IN yet", x.count(7), 8);
        due.is("OUT yet", x.count(8), -1);
        due.is("undo() of step()", x.undo(), 0);
        heats("step() undone", x, 60, 30);
        due.is("STEPS but those undone", x.count(12), 0);
        due.is("IN", x.count(7), 0);
        due.is("OUT", x.count(8), 0);
        due.is("undo() of none again", x.undo(), NOT);
        due.is("undoable", x.count(14), 0);
        x.step(7);
        x.step(5);
        due.is("undo() of five STEPS at once", x.undo(), 1);
        due.is("STEPS", x.count(12), 7);
    }

    // no other call can be undone
    private static void undoneAreFourCallsAlone() {
        WallHeat x = Due.told(PAIR);
        x.write('a');
        x.fault();
        x.wall();
        x.find();
        x.erase();
        x.keep(0);
        x.keep(1);
        x.page(0);
        x.put(0, 1, 1, 1);
        x.strike(0, 1, 1);
        x.drop(0);
        x.until(0, 99);
        x.gain(0);
        x.swapped(0, 1, 0);
        x.flow(0);
        x.rest(0, 0);
        due.is("undoable", x.count(14), 0);
        due.is("undo()", x.undo(), NOT);
        x.air(0, 5);
        x.write('b');
        x.page(0);
        x.put(0, 1, 1, 1);
        x.keep(1);
        due.is("undo() of air()", x.undo(), 0);
        due.is("the letter stays", x.count(15), 1);
        due.is("the KEY stays", x.count(13), 1);
        due.is("what is kept stays", x.back(1), 90);
        due.is("the air that is kept", x.count(2), 5);
    }

    // "(the last 8 can be)"
    private static void undoneAreEightAtMost() {
        for (int many = 0; many <= 20; many++) {
            WallHeat x = Due.told("stuff a 1 1;layer a 1");
            for (int i = 1; i <= many; i++) x.heat(0, i);
            int left = Math.min(many, 8);
            due.is("undoable of " + many, x.count(14), left);
            for (int i = left - 1; i >= 0; i--) due.is("undo() of " + many, x.undo(), i);
            due.is("undo() of no more", x.undo(), NOT);
            int first = many - left;
            due.is("HEAT of the first " + first, x.cell(0, 1), first * (first + 1) / 2);
        }
        // of each kind the eighth can be undone, the ninth cannot
        WallHeat x = Due.told(PAIR);
        x.pace(7);
        for (int i = 0; i < 2; i++) {
            x.step(1);
            x.heat(0, 1);
            x.air(0, i);
            x.pace(i + 1);
        }
        while (x.count(14) > 0) x.undo();
        due.is("t of the ninth stays", x.count(4), 7);
        due.is("STEPS of the eighth are undone", x.count(12), 0);
        heats("the eighth undone", x, 60, 30);
    }

    private static WallHeat changed() {
        WallHeat x = Due.told(PAIR);
        x.step(2);
        x.keep(0);
        x.heat(0, 5);
        x.heat(1, 6);
        x.air(0, 300);
        x.air(1, 400);
        x.pace(50);
        x.step(3);
        return x;
    }

    // "HEATS, AIRS, STEP, IN, OUT, how many STEPS there were are kept"
    private static void keptAreSix() {
        WallHeat kept = Due.told(PAIR);
        kept.step(2);
        WallHeat x = changed();
        int[] whats = {2, 3, 4, 6, 7, 8, 12};
        for (int what : whats) due.isTrue("changed: count(" + what + ")", x.count(what) != kept.count(what));
        due.is("back(0)", x.back(0), kept.count(6));
        for (int what : whats) due.is("back: count(" + what + ")", x.count(what), kept.count(what));
        heats("back", x, kept.cell(0, 1), kept.cell(1, 1));
        // STUFFS, CELLS, PAGES and THE TEXT are not
        x = changed();
        x.page(0);
        x.put(0, 1, 2, 3);
        x.write('a');
        x.back(0);
        due.is("the KEY stays", x.get(0, 1, 2), 3);
        due.is("the letter stays", x.count(15), 1);
        due.is("the STUFF stays", x.find(), 0);
    }

    // "(k 0, 1)"; "all HEAT together"
    private static void keptAreTwo() {
        WallHeat x = Due.told("stuff a 1 1;layer a 9;layer a 1");
        for (int k : new int[] {-1, 2, 3}) {
            due.is("keep(" + k + ")", x.keep(k), UNKNOWN);
            due.is("back(" + k + ")", x.back(k), UNKNOWN);
        }
        due.is("back(0) of nothing", x.back(0), NOT);
        due.is("back(1) of nothing", x.back(1), NOT);
        due.is("keep(0) of no HEAT", x.keep(0), 0);
        due.is("back(1) of nothing yet", x.back(1), NOT);
        for (int i = 0; i < 10; i++) become(x, i, 20000);
        due.is("keep(1) of the most HEAT", x.keep(1), 200000);
        due.is("back(0)", x.back(0), 0);
        due.is("back(1)", x.back(1), 200000);
        due.is("back(1) again", x.back(1), 200000);
        x.heat(9, -1);
        due.is("keep(0) anew", x.keep(0), 199999);
        due.is("back(1) is another", x.back(1), 200000);
        due.is("back(0) anew", x.back(0), 199999);
        due.is("keep(0) without CELLS", new WallHeat().keep(0), 0);
        x = new WallHeat();
        x.keep(1);
        due.is("back(1) without CELLS", x.back(1), 0);
        due.is("back(0) without CELLS", x.back(0), NOT);
    }

    // "nothing can be undone"
    private static void backForgetsWhatCouldBeUndone() {
        WallHeat x = changed();
        due.is("undoable ahead", x.count(14), 7);
        x.keep(1);
        due.is("keep() leaves what can be undone", x.count(14), 7);
        due.is("back(1), refused", x.back(2), UNKNOWN);
        due.is("undoable yet", x.count(14), 7);
        x.back(0);
        due.is("undoable", x.count(14), 0);
        due.is("undo()", x.undo(), NOT);
        x.air(0, 7);
        due.is("undoable of one", x.count(14), 1);
        due.is("undo() of one", x.undo(), 0);
        due.is("l", x.count(2), 100);
    }

    // "NOT: nothing was kept since the last text"
    private static void backIsNotBehindAText() {
        WallHeat x = changed();
        Due.write(x, "air 1 1");
        x.wall();
        due.is("back(0)", x.back(0), NOT);
        x.keep(1);
        due.is("back(0) yet", x.back(0), NOT);
        due.isTrue("back(1)", x.back(1) > 0);
        // a text that was not done is none
        Due.write(x, "air 1");
        x.wall();
        due.isTrue("back(1) behind a FAULT", x.back(1) > 0);
    }

    // "0 STUFFS, 1 CELLS, .. 15 letters of THE TEXT. OUTSIDE."
    private static void countsAreSixteen() {
        WallHeat x = changed();
        due.is("count(-1)", x.count(-1), OUTSIDE);
        due.is("count(16)", x.count(16), OUTSIDE);
        due.isTrue("count(15)", x.count(15) == 0);
        due.is("count(0)", x.count(0), 2);
        due.is("count(1)", x.count(1), 2);
        due.is("count(2)", x.count(2), 300);
        due.is("count(3)", x.count(3), 400);
        due.is("count(4)", x.count(4), 50);
        due.is("count(5)", x.count(5), 3);
        due.is("count(6)", x.count(6), x.cell(0, 1) + x.cell(1, 1));
        due.is("count(12)", x.count(12), 5);
        due.is("count(14)", x.count(14), 7);
    }
}
