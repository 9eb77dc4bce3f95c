/** Promises 1 to 6: a new object, the text, its faults, its doing, its words. */
final class TextTest {
    private static final Due due = new Due("TextTest");

    public static void main(String[] args) {
        newObject();
        letters();
        faultsOfForm();
        faultsOfBounds();
        faultsByWhatWasTold();
        mostClauses();
        mostLetters();
        done();
        forgotten();
        refused();
        found();
        due.end();
    }

    private static void fault(WallHeat x, String text, int want) {
        due.is("fault() of \"" + text + "\"", Due.fault(x, text), want);
    }

    private static void fault(String text, int want) {
        fault(new WallHeat(), text, want);
    }

    private static void newObject() {
        WallHeat x = new WallHeat();
        int[] first = {0, 0, 0, 0, 40, 1, 0, 0, 0, -1, -1, 0, 0, 0, 0, 0};
        for (int i = 0; i < first.length; i++) due.is("new: count(" + i + ")", x.count(i), first[i]);
        due.is("new: stuff(0, 0)", x.stuff(0, 0), WallHeat.UNKNOWN);
        due.is("new: cell(0, 0)", x.cell(0, 0), WallHeat.UNKNOWN);
        for (int i = 0; i < 3; i++) due.is("new: sum(" + i + ", 1)", x.sum(i, 1), WallHeat.NULL);
        due.is("new: back(0)", x.back(0), WallHeat.NOT);
    }

    private static void letters() {
        WallHeat x = new WallHeat();
        due.is("write(-1)", x.write(-1), WallHeat.OUTSIDE);
        due.is("write(256)", x.write(256), WallHeat.OUTSIDE);
        due.is("write(lowest)", x.write(Integer.MIN_VALUE), WallHeat.OUTSIDE);
        due.is("write(highest)", x.write(Integer.MAX_VALUE), WallHeat.OUTSIDE);
        due.is("erase() of nothing", x.erase(), 0);
        due.is("write(0)", x.write(0), 1);
        due.is("write(255)", x.write(255), 2);
        due.is("count(15)", x.count(15), 2);
        due.is("erase()", x.erase(), 2);
        due.is("count(15) behind", x.count(15), 0);
        due.is("erase() again", x.erase(), 0);
        for (int i = 1; i <= 200; i++) due.is("write(32)", x.write(32), i);
        due.is("letter 201", x.write(32), WallHeat.FULL);
        due.is("letter 201, outside too", x.write(256), WallHeat.OUTSIDE);
        due.is("fault() of 200 blanks", x.fault(), 200);
        due.is("erase() of 200", x.erase(), 200);
    }

    private static void faultsOfForm() {
        fault("", 0);
        fault("   ", 3);
        fault(";", 0);
        fault(" ; wall 4", 1);
        fault("wall", 4);
        fault("wall  ", 6);
        fault("wall 4", WallHeat.NONE);
        fault("  wall   4  ", WallHeat.NONE);
        fault("wall4", WallHeat.NONE);
        fault("wall 4;", 7);
        fault("wall 4 ; ", 9);
        fault("wall 4;;air 1 1", 7);
        fault("wall 4 5", 7);
        fault("wall 4air 1 1", 6);
        fault("wall 4.", 6);
        fault("wall -4", 5);
        fault("wall x", 5);
        fault("Wall 4", 0);
        fault("wAll 4", 0);
        fault("walls 4", 0);
        fault("wal 4", 0);
        fault("4 wall", 0);
        fault("xall 4", 0);
        fault("xtuff a 1 1", 0);
        fault("xir 1 1", 0);
        fault("stuff a 1 1;xayer a 1", 12);
        fault("stuff a 1 1;layer a 1;xeat 0 1", 22);
        fault("stuff az 1 1;layer az 1", WallHeat.NONE);
        fault("stuff a` 1 1", 7);
        fault("stuff a{ 1 1", 7);
        fault("air 09 90", WallHeat.NONE);
        fault("air 0/ 0", 5);
        fault("air 0: 0", 5);
        fault("wall\t4", 4);
        fault("wall\u00e94", 4);
        fault("air 1", 5);
        fault("air 1,2", 5);
        fault("air 1 2 3", 8);
        fault("stuff", 5);
        fault("stuff ;", 6);
        fault("stuff a", 7);
        fault("stuff a 1;", 9);
        fault("stuff a b 1", 8);
        fault("stuff a1 1", WallHeat.NONE);
        fault("stuff a 11", 10);
        fault("stuff A 1 1", 6);
        fault("stuff a 1 1 1", 12);
        fault("stuff wall 1 1;layer wall 1", WallHeat.NONE);
        fault("stuff a 1 1;layer", 17);
        fault("stuff a 1 1;layer a", 19);
        fault("stuff a 1 1;layer 1", 18);
        fault("stuff a 1 1;layer a a", 20);
        fault("stuff a 1 1;layer a 1;heat", 26);
        fault("stuff a 1 1;layer a 1;heat 0", 28);
        fault("stuff a 1 1;layer a 1;heat 0 x", 29);
        fault("stuff a 1 1;layer a 1;heat x", 27);
    }

    private static void faultsOfBounds() {
        fault("wall 0", 5);
        fault("wall 1", WallHeat.NONE);
        fault("wall 999", WallHeat.NONE);
        fault("wall 1000", 5);
        fault("wall 0999", WallHeat.NONE);
        fault("wall 00999", 5);
        fault("wall 99999999999999999999", 5);
        fault("wall 4294967300", 5);
        fault("air 0 999", WallHeat.NONE);
        fault("air 999 0", WallHeat.NONE);
        fault("air 1000 0", 4);
        fault("air 0 1000", 6);
        fault("stuff a 0 1", 8);
        fault("stuff a 1 0", 10);
        fault("stuff a 20 20", WallHeat.NONE);
        fault("stuff a 21 1", 8);
        fault("stuff a 1 21", 10);
        fault("stuff abcdefg 1 1", WallHeat.NONE);
        fault("stuff abcdefgh 1 1", 6);
        String a = "stuff a 1 1;layer a ";
        fault(a + "0", 20);
        fault(a + "1", WallHeat.NONE);
        fault(a + "9", WallHeat.NONE);
        fault(a + "10", 20);
        fault(a + "9;layer a 1", WallHeat.NONE);
        fault(a + "9;layer a 2", 30);
        fault(a + "9;layer a 1;layer a 1", 40);
        fault(a + "9;layer a 1;layer a", 39);
        fault(a + "2;heat 0 0;heat 1 9999", WallHeat.NONE);
        fault(a + "2;heat 2 1", 27);
        fault(a + "2;heat 00002 1", 27);
        fault(a + "2;heat 1 10000", 29);
    }

    private static void faultsByWhatWasTold() {
        fault("layer a 1", 6);
        fault("heat 0 1", 5);
        fault("stuff a 1 1;stuff b 1 1;stuff a 1 1", 30);
        fault("stuff a 1 1;stuff aa 1 1;stuff ab 1 1", WallHeat.NONE);
        fault("stuff ab 1 1;layer a 1", 19);
        fault("stuff ab 1 1;layer abc 1", 19);
        fault("stuff a 1 1;wall 3;layer a 1", 25);
        fault("stuff a 1 1;wall 3;stuff a 1 1;layer a 1", WallHeat.NONE);
        fault("stuff a 1 1;layer a 1;wall 3;heat 0 1", 34);
        String six = "stuff a 1 1;stuff b 1 1;stuff c 1 1;stuff d 1 1;stuff e 1 1;stuff f 1 1";
        fault(six, WallHeat.NONE);
        fault(six + ";stuff g 1 1", 72);
        fault(six + ";wall 1;stuff g 1 1", WallHeat.NONE);

        WallHeat x = Due.told(six + ";layer a 9");
        fault(x, "stuff g 1 1", 0);
        fault(x, "stuff", 0);
        fault(x, "layer f 1;heat 9 1", WallHeat.NONE);
        fault(x, "layer f 2", 8);
        fault(x, "heat 9 1;layer f 1", 5);
        fault(x, "wall 2;layer f 1", 13);
        due.is("fault() changes nothing: count(0)", x.count(0), 6);
        due.is("fault() changes nothing: count(1)", x.count(1), 9);
        due.is("fault() changes nothing: count(4)", x.count(4), 40);
        x = Due.told("stuff a 1 1");
        fault(x, "stuff a 1 1", 6);
    }

    private static void mostClauses() {
        StringBuilder text = new StringBuilder("air 1 2");
        for (int i = 1; i < 24; i++) text.append(";wall 7");
        WallHeat x = new WallHeat();
        Due.write(x, text.toString());
        due.is("fault() of 24 clauses", x.fault(), WallHeat.NONE);
        due.is("wall() of 24 clauses", x.wall(), 24);
        fault(text + ";wall 7", text.length());
        fault(text + ";", text.length());
        fault(text + " x", text.length() + 1);
    }

    private static void mostLetters() {
        StringBuilder text = new StringBuilder("wall 7");
        while (text.length() < 199) text.append(' ');
        fault(text + " ", WallHeat.NONE);
        fault(text + ";", 200);
        fault(text + " ;", WallHeat.NONE);
        text.setLength(0);
        while (text.length() < 195) text.append(' ');
        fault(text + "wall7", WallHeat.NONE);
        fault(text + "wall 7", 200);
    }

    private static void done() {
        WallHeat x = new WallHeat();
        Due.write(x, "wall 7;stuff ab 2 3;stuff c 20 19;air 5 6;layer c 2;layer ab 1;heat 1 9999;heat 1 12;heat 2 0");
        due.is("wall()", x.wall(), 9);
        due.is("count(0)", x.count(0), 2);
        due.is("count(1)", x.count(1), 3);
        due.is("count(2)", x.count(2), 5);
        due.is("count(3)", x.count(3), 6);
        due.is("count(4)", x.count(4), 7);
        due.is("count(6)", x.count(6), 12);
        due.is("count(15)", x.count(15), 0);
        due.is("cell(1, 1)", x.cell(1, 1), 12);
        due.is("wall() of nothing", x.wall(), WallHeat.NOT);
        Due.write(x, "layer ab 1; heat 0 4");
        due.is("wall() more", x.wall(), 2);
        due.is("more: count(1)", x.count(1), 4);
        due.is("more: count(2)", x.count(2), 5);
        due.is("more: count(4)", x.count(4), 7);
        due.is("more: count(6)", x.count(6), 16);
        due.is("more: cell(3, 0)", x.cell(3, 0), 0);
        Due.write(x, "air 8 9;wall 40;stuff ab 1 1;layer ab 2");
        due.is("wall() anew", x.wall(), 4);
        due.is("anew: count(0)", x.count(0), 1);
        due.is("anew: count(1)", x.count(1), 2);
        due.is("anew: count(2)", x.count(2), 0);
        due.is("anew: count(3)", x.count(3), 0);
        due.is("anew: count(4)", x.count(4), 40);
        due.is("anew: count(6)", x.count(6), 0);
        due.is("anew: stuff(0, 0)", x.stuff(0, 0), 1);
    }

    private static void forgotten() {
        WallHeat x = Due.told("stuff a 2 3;layer a 2;air 900 100");
        x.step(5);
        x.keep(0);
        x.keep(1);
        x.heat(0, 1);
        x.page(0);
        x.page(2);
        x.put(0, 1, 1, 1);
        due.isTrue("IN ahead of the text", x.count(7) != 0);
        due.isTrue("OUT ahead of the text", x.count(8) != 0);
        int heat = x.count(6);
        Due.write(x, "air 1 2");
        due.is("wall()", x.wall(), 1);
        due.is("heat stays", x.count(6), heat);
        due.is("IN", x.count(7), 0);
        due.is("OUT", x.count(8), 0);
        due.is("steps", x.count(12), 0);
        due.is("keys", x.count(13), 0);
        due.is("undoable", x.count(14), 0);
        due.is("undo()", x.undo(), WallHeat.NOT);
        due.is("back(0)", x.back(0), WallHeat.NOT);
        due.is("back(1)", x.back(1), WallHeat.NOT);
        for (int i = 0; i < 3; i++) due.is("sum(" + i + ", 0)", x.sum(i, 0), WallHeat.NULL);
    }

    private static void refused() {
        WallHeat x = Due.told("stuff a 2 3;layer a 2;air 900 100");
        x.step(5);
        x.keep(1);
        x.page(0);
        x.put(0, 1, 1, 1);
        int heat = x.count(6);
        int in = x.count(7);
        Due.write(x, "wall 3;air 4 5;layer a 1");
        due.is("wall() with a fault", x.wall(), WallHeat.NOT);
        due.is("the text stays", x.count(15), 24);
        due.is("the stuffs stay", x.count(0), 1);
        due.is("the cells stay", x.count(1), 2);
        due.is("the air stays", x.count(2), 900);
        due.is("the pace stays", x.count(4), 40);
        due.is("the heat stays", x.count(6), heat);
        due.is("IN stays", x.count(7), in);
        due.is("steps stay", x.count(12), 5);
        due.is("keys stay", x.count(13), 1);
        due.is("undoable stay", x.count(14), 1);
        due.is("what is kept stays", x.back(1), heat);
    }

    private static void find(WallHeat x, String text, int want) {
        x.erase();
        Due.write(x, text);
        due.is("find() of \"" + text + "\"", x.find(), want);
        due.is("find() leaves the text", x.count(15), text.length());
    }

    private static void found() {
        WallHeat x = new WallHeat();
        find(x, "", WallHeat.NONE);
        find(x, "a", WallHeat.NONE);
        x = Due.told("stuff ab 1 1;stuff a 1 1;stuff abcdefg 1 1");
        find(x, "ab", 0);
        find(x, "a", 1);
        find(x, "abcdefg", 2);
        find(x, "abcdefgh", WallHeat.NONE);
        find(x, "abcdef", WallHeat.NONE);
        find(x, "  ab ", 0);
        find(x, "a b", 0);
        find(x, "   ", WallHeat.NONE);
        find(x, "", WallHeat.NONE);
        find(x, "AB", WallHeat.NONE);
        find(x, "ab;", WallHeat.NONE);
        find(x, "b", WallHeat.NONE);
        x.erase();
        Due.write(x, "wall 4;stuff b 1 1");
        due.is("wall()", x.wall(), 2);
        find(x, "b", 0);
        find(x, "ab", WallHeat.NONE);
    }
}
