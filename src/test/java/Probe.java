import java.util.ArrayList;
import java.util.List;

/** All that can be seen of an object, also what it keeps, what it can undo and what its text would do: it is used up by that. */
final class Probe {
    private final WallHeat x;
    private final List<String> seen = new ArrayList<>();

    private Probe(WallHeat x) {
        this.x = x;
    }

    static List<String> of(WallHeat x) {
        Probe probe = new Probe(x);
        probe.seeAll();
        return probe.seen;
    }

    private void see(String call, long answer) {
        seen.add(call + " answers " + answer);
    }

    private void seeAll() {
        seeCounts();
        seeStuffs();
        seeHeats("");
        seePages();
        seeFound();
        see("fault()", x.fault());
        see("find()", x.find());
        seeUndone();
        for (int k = 0; k < 2; k++) {
            see("back(" + k + ")", x.back(k));
            seeWarmth("behind back(" + k + "), ");
        }
        see("wall()", x.wall());
        seeCounts();
        seeStuffs();
        seeHeats("behind wall(), ");
        see("behind wall(), erase()", x.erase());
    }

    private void seeCounts() {
        for (int what = 0; what < 16; what++) see("count(" + what + ")", x.count(what));
    }

    private void seeStuffs() {
        for (int stuff = 0; stuff < x.count(0); stuff++) {
            for (int what = 0; what < 4; what++) see("stuff(" + stuff + ", " + what + ")", x.stuff(stuff, what));
        }
    }

    private void seeHeats(String when) {
        for (int cell = 0; cell < x.count(1); cell++) see(when + "cell(" + cell + ", 1)", x.cell(cell, 1));
    }

    private void seeFound() {
        see("flow(0)", x.flow(0));
        see("rest(0, 0)", x.rest(0, 0));
        see("resists(0)", x.resists(0));
        see("swapped(0, 0, 0)", x.swapped(0, 0, 0));
        see("gain(0)", x.gain(0));
        see("until(0, 1)", x.until(0, 1));
    }

    private void seePages() {
        for (int page = 0; page < 3; page++) {
            for (int what = 0; what < 3; what++) see("sum(" + page + ", " + what + ")", x.sum(page, what));
            for (int i = 0; i < 8; i++) see("get(" + page + ", " + i + ", " + -i + ")", x.get(page, i, -i));
        }
    }

    private void seeUndone() {
        for (int i = 0; i < 9; i++) {
            see("undo()", x.undo());
            seeWarmth("behind undo() " + i + ", ");
        }
    }

    private void seeWarmth(String when) {
        int[] whats = {2, 3, 4, 6, 7, 8, 12};
        for (int what : whats) see(when + "count(" + what + ")", x.count(what));
        see(when + "cell(0, 1)", x.cell(0, 1));
    }
}
