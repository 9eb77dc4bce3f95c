/**
 * Chapter 1 of the Terms and promises 1 to 6: each sentence that names a bound has a method here, with the last that
 * still stands and the first that does not. In a text a ^ marks where its FAULT is due; without it none is.
 */
final class TextEdgeTest {
    private static final Due due = new Due("TextEdgeTest");
    private static final int UNKNOWN = WallHeat.UNKNOWN, OUTSIDE = WallHeat.OUTSIDE, NOT = WallHeat.NOT, FULL = WallHeat.FULL, NONE = WallHeat.NONE;
    private static final String ONE = "stuff a 1 1;layer a 1;";

    public static void main(String[] args) {
        stuffsAreSixAtMost();
        seventhIsFaultyAtItsWordStuff();
        stuffsAreCountedAnewBehindWall();
        wordsHaveOneToSevenLetters();
        wordsAreOfSmallLetters();
        wordsAreUnlike();
        passesAreOneToTwenty();
        holdsAreOneToTwenty();
        cellsAreTenAtMost();
        layersAreOneToNine();
        layersAreOfWordsToldAhead();
        heatIsNoneAtFirst();
        heatIsOfCellsToldAhead();
        heatIsToldUpTo9999();
        airsAreUpTo999();
        paceIsOneTo999();
        lettersAre200AtMost();
        lettersErasedAreNotRead();
        lettersAreNumbers0To255();
        clausesAre24AtMost();
        clausesAreAtLeastOne();
        numbersHaveOneToFourDigits();
        blanksStandBetween();
        eachTokenOfEachClause();
        tokensAreRowsOrSingle();
        clausesAreDoneInTheirOrder();
        wallIsAllAsAtFirst();
        whatWasToldOrDoneStays();
        booksOfInAndOutAreNone();
        noStepWas();
        nothingIsKeptOrUndone();
        pagesAreAllMissing();
        faultyTextIsNotDone();
        faultChangesNothing();
        wallTellsHowMany();
        findsByTheWholeWord();
        due.end();
    }

    private static void read(WallHeat x, String marked) {
        String text = marked.replace("^", "");
        due.is("fault() of \"" + text + "\"", Due.fault(x, text), marked.indexOf('^'));
    }

    private static void read(String marked) {
        read(new WallHeat(), marked);
    }

    private static String stuffs(int many) {
        StringBuilder text = new StringBuilder();
        for (int i = 0; i < many; i++) text.append(i == 0 ? "" : ";").append("stuff ").append((char) ('a' + i)).append(" 1 1");
        return text.toString();
    }

    private static String cells(int many) {
        return "stuff a 1 1" + (many > 9 ? ";layer a 9" : "") + ";layer a " + (many > 9 ? many - 9 : many);
    }

    // "STUFFS 0, 1 .., 6 at most (none at first)"
    private static void stuffsAreSixAtMost() {
        due.is("STUFFS at first", new WallHeat().count(0), 0);
        due.is("no STUFF 0 at first", new WallHeat().stuff(0, 0), UNKNOWN);
        for (int many = 1; many <= 6; many++) {
            WallHeat x = Due.told(stuffs(many));
            due.is("STUFFS", x.count(0), many);
            due.is("the last of " + many, x.stuff(many - 1, 0), 1);
            due.is("the one behind " + many, x.stuff(many, 0), UNKNOWN);
        }
    }

    // "a seventh cannot stand there (at its word stuff)"
    private static void seventhIsFaultyAtItsWordStuff() {
        read(stuffs(6));
        read(stuffs(6) + ";^stuff g 1 1");
        read(stuffs(6) + " ; ^stuff");
        read(stuffs(6) + ";^stuff a 1 1");
        read(stuffs(6) + ";^stuff abcdefgh 99999 1");
        WallHeat x = Due.told(stuffs(6));
        read(x, "^stuff g 1 1");
        read(x, "air 1 1; ^stuff g 1 1");
        read(x, "layer f 1;heat 0 1;air 1 1");
        x = Due.told(stuffs(5));
        read(x, "stuff f 1 1");
        read(x, "stuff f 1 1;^stuff g 1 1");
    }

    // "wall: .. all else as at first": so the seventh is the first again
    private static void stuffsAreCountedAnewBehindWall() {
        WallHeat x = Due.told(stuffs(6));
        read(x, "wall 1;" + stuffs(6));
        read(x, "wall 1;" + stuffs(6) + ";^stuff g 1 1");
        read(x, "wall 1;stuff g 1 1;wall 1;" + stuffs(6));
    }

    // "a WORD (1 to 7 small letters, ..)"; "a WORD of more letters, also"
    private static void wordsHaveOneToSevenLetters() {
        read("stuff a 1 1");
        read("stuff abcdefg 1 1");
        read("stuff ^abcdefgh 1 1");
        read("stuff ^aaaaaaaaaaaaaaaaaaaaaaaaa 1 1");
        read("stuff ^1 1 1");
        read("stuff ^; 1 1");
        read("stuff^");
        due.is("letters of the shortest", Due.told("stuff a 1 1").stuff(0, 2), 1);
        due.is("letters of the longest", Due.told("stuff abcdefg 1 1").stuff(0, 2), 7);
        WallHeat x = Due.told("stuff abcdefg 1 1");
        read(x, "layer abcdefg 1");
        read(x, "layer ^abcdefgh 1");
        read(x, "layer ^abcdef 1");
    }

    // "small letters a .. z"
    private static void wordsAreOfSmallLetters() {
        for (int letter = 0; letter < 256; letter++) {
            String text = "stuff " + (char) letter + " 1 1";
            int want = letter >= 'a' && letter <= 'z' ? NONE : letter == ' ' ? 8 : 6;
            due.is("fault() of a WORD of letter " + letter, Due.fault(new WallHeat(), text), want);
        }
        read("stuff az 1 1;layer az 1");
        read("stuff a^` 1 1");
        read("stuff a^{ 1 1");
        read("stuff a^Z 1 1");
    }

    // "unlike ones", "unlike those told"
    private static void wordsAreUnlike() {
        read("stuff a 1 1;stuff ^a 2 2");
        read("stuff a 1 1;stuff b 1 1;stuff ^a 1 1");
        read("stuff a 1 1;stuff b 1 1;stuff ^b 1 1");
        read(stuffs(5) + ";stuff ^a 1 1");
        read(stuffs(5) + ";stuff ^e 1 1");
        read(Due.told("stuff ab 1 1"), "stuff ^ab 1 1");
        read(Due.told("stuff ab 1 1"), "stuff a 1 1;stuff b 1 1;stuff abc 1 1;stuff ba 1 1");
        read(Due.told("stuff ab 1 1"), "wall 1;stuff ab 1 1");
        read("stuff abcdefg 1 1;stuff abcdefh 1 1;stuff bbcdefg 1 1;stuff ^abcdefg 1 1");
        read("stuff wall 1 1;stuff stuff 1 1;stuff layer 1 1;stuff air 1 1;stuff heat 1 1;layer heat 1");
    }

    // "PASSES k (1 .. 20)"
    private static void passesAreOneToTwenty() {
        for (int k = 1; k <= 20; k++) due.is("PASSES told", Due.told("stuff a " + k + " 7").stuff(0, 0), k);
        read("stuff a ^0 1");
        read("stuff a ^21 1");
        read("stuff a ^100 1");
        read("stuff a ^9999 21");
    }

    // "HOLDS c (1 .. 20)"
    private static void holdsAreOneToTwenty() {
        for (int c = 1; c <= 20; c++) due.is("HOLDS told", Due.told("stuff a 7 " + c).stuff(0, 1), c);
        read("stuff a 1 ^0");
        read("stuff a 1 ^21");
        read("stuff a 20 ^201");
    }

    // "CELLS 0, 1 .., 10 at most from left to right (none at first)"; "no more than ten CELLS in all (N is out of its bounds else)"
    private static void cellsAreTenAtMost() {
        due.is("CELLS at first", new WallHeat().count(1), 0);
        due.is("no CELL 0 at first", new WallHeat().cell(0, 0), UNKNOWN);
        for (int many = 1; many <= 10; many++) {
            WallHeat x = Due.told(cells(many));
            due.is("CELLS", x.count(1), many);
            due.is("the last of " + many, x.cell(many - 1, 0), 0);
            due.is("the one behind " + many, x.cell(many, 0), UNKNOWN);
            if (many > 1) read(x, "layer a ^" + (11 - many));
            if (many < 10) read(x, "layer a " + (10 - many));
        }
        read(Due.told(cells(10)), "layer a ^1");
        read(Due.told(cells(10)), "layer ^b 1");
        read(Due.told(cells(10)), "layer a^");
        read("stuff a 1 1;layer a 5;layer a 5");
        read("stuff a 1 1;layer a 5;layer a ^6");
        read("stuff a 1 1;layer a 9;layer a ^2");
        read("stuff a 1 1;layer a 9;layer a 1;layer a ^1");
        read(Due.told(cells(10)), "wall 1;stuff a 1 1;layer a 9;layer a 1");
        WallHeat x = Due.told("stuff a 1 1;stuff b 1 1;layer b 1;layer a 2");
        due.is("from left to right: CELL 0", x.cell(0, 0), 1);
        due.is("from left to right: CELL 1", x.cell(1, 0), 0);
        Due.write(x, "layer b 1");
        x.wall();
        due.is("from left to right: CELL 2", x.cell(2, 0), 0);
        due.is("from left to right: CELL 3", x.cell(3, 0), 1);
    }

    // "layer: N CELLS more (1 to 9)"
    private static void layersAreOneToNine() {
        for (int n = 1; n <= 9; n++) due.is("CELLS of a layer", Due.told("stuff a 1 1;layer a " + n).count(1), n);
        read("stuff a 1 1;layer a ^0");
        read("stuff a 1 1;layer a 9");
        read("stuff a 1 1;layer a ^10");
        read("stuff a 1 1;layer a ^11");
    }

    // "of the STUFF with the WORD W, told ahead"
    private static void layersAreOfWordsToldAhead() {
        read("layer ^a 1");
        read("layer ^a 1;stuff a 1 1");
        read("stuff b 1 1;layer ^a 1");
        read("stuff b 1 1;layer b 1");
        read(Due.told("stuff b 1 1"), "layer b 1");
        read(Due.told("stuff b 1 1"), "wall 1;layer ^b 1");
        read(Due.told("stuff b 1 1"), "stuff c 1 1;layer c 1;layer b 1");
        read(Due.told(stuffs(6)), "layer f 1;layer a 1;layer ^g 1");
    }

    // "HEAT h (0 .. 20000; 0 at first)"
    private static void heatIsNoneAtFirst() {
        WallHeat x = Due.told(cells(10));
        for (int i = 0; i < 10; i++) {
            due.is("HEAT at first", x.cell(i, 1), 0);
            x.heat(i, 5);
        }
        Due.write(x, "wall 1;" + cells(10));
        x.wall();
        for (int i = 0; i < 10; i++) due.is("HEAT at first, behind another wall", x.cell(i, 1), 0);
        x = Due.told("stuff a 1 1;layer a 1");
        read(x, "layer a 2;heat 2 77;layer ^b 1");
        Due.write(x, "layer a 2");
        x.wall();
        due.is("HEAT at first, behind a text that was not done", x.cell(2, 1), 0);
    }

    // "heat: CELL I, told ahead"
    private static void heatIsOfCellsToldAhead() {
        read("heat ^0 1");
        read(ONE + "heat 0 1");
        read(ONE + "heat ^1 1");
        read("stuff a 1 1;heat ^0 1;layer a 1");
        read(cells(10) + ";heat 9 1");
        read(cells(10) + ";heat ^10 1");
        read(Due.told(cells(2)), "heat 1 1");
        read(Due.told(cells(2)), "heat ^2 1");
        read(Due.told(cells(2)), "layer a 1;heat 2 1;heat ^3 1");
        read(Due.told(cells(2)), "wall 1;heat ^0 1");
        due.is("only that CELL", Due.told(cells(3) + ";heat 1 6").cell(1, 1), 6);
        due.is("not the one ahead", Due.told(cells(3) + ";heat 1 6").cell(0, 1), 0);
        due.is("not the one behind", Due.told(cells(3) + ";heat 1 6").cell(2, 1), 0);
    }

    // "has HEAT H, 0 to 9999"
    private static void heatIsToldUpTo9999() {
        due.is("HEAT 9999", Due.told(ONE + "heat 0 9999").cell(0, 1), 9999);
        due.is("HEAT 0", Due.told(ONE + "heat 0 7;heat 0 0").cell(0, 1), 0);
        read(ONE + "heat 0 ^10000");
        read(ONE + "heat 0 ^20000");
        read(ONE + "heat 0 ^-1");
    }

    // "AIRS: left and right, of DEGREES l, r (0 .. 999; 0 at first each)"; "air: l is L, r is R, 0 to 999"
    private static void airsAreUpTo999() {
        due.is("l at first", new WallHeat().count(2), 0);
        due.is("r at first", new WallHeat().count(3), 0);
        WallHeat x = Due.told("air 999 0");
        due.is("l 999", x.count(2), 999);
        due.is("r 0", x.count(3), 0);
        x = Due.told("air 5 5;air 0 999");
        due.is("l 0", x.count(2), 0);
        due.is("r 999", x.count(3), 999);
        read("air ^1000 0");
        read("air 0 ^1000");
        read("air ^1000 1000");
        read("air ^-1 0");
        read("air 0 ^-1");
    }

    // "STEP is 1 by t (t 1 .. 999; 40 at first)"; "T 1 to 999"
    private static void paceIsOneTo999() {
        due.is("t at first", new WallHeat().count(4), 40);
        due.is("t of a text without wall", Due.told("air 1 1").count(4), 40);
        due.is("t 1", Due.told("wall 1").count(4), 1);
        due.is("t 999", Due.told("wall 999").count(4), 999);
        read("wall ^0");
        read("wall ^1000");
        read("wall ^9999");
    }

    // "THE TEXT is a row of letters, 200 at most"
    private static void lettersAre200AtMost() {
        WallHeat x = new WallHeat();
        due.is("letters at first", x.count(15), 0);
        due.is("erase() of the empty text", x.erase(), 0);
        for (int i = 1; i <= 194; i++) x.write(' ');
        Due.write(x, "wall ");
        due.is("letter 200", x.write('7'), 200);
        due.is("letter 201", x.write('7'), FULL);
        due.is("letters", x.count(15), 200);
        due.is("fault() of 200 letters", x.fault(), NONE);
        due.is("wall() of 200 letters", x.wall(), 1);
        due.is("letter 200 was read, letter 201 was not", x.count(4), 7);
        due.is("letter 1 again", x.write('w'), 1);
        for (int i = 2; i <= 200; i++) x.write(' ');
        due.is("erase() of the full text", x.erase(), 200);
        due.is("letters behind erase()", x.count(15), 0);
        due.is("letter 1 behind erase()", x.write(0), 1);
    }

    // "THE TEXT is empty": what stood there ahead of erase() or wall() is not read on behind a shorter text
    private static void lettersErasedAreNotRead() {
        WallHeat x = new WallHeat();
        Due.write(x, "wall 77 ;stuff abc 1 1");
        x.erase();
        Due.write(x, "wall 7");
        due.is("fault() behind erase()", x.fault(), NONE);
        due.is("wall() behind erase()", x.wall(), 1);
        due.is("the shorter number", x.count(4), 7);
        Due.write(x, "air 123 4567");
        x.erase();
        Due.write(x, "air 123 4");
        due.is("wall() of a shorter number", x.wall(), 1);
        due.is("the shorter number at the end", x.count(3), 4);
        Due.write(x, "stuff ab 1 11");
        due.is("wall()", x.wall(), 1);
        Due.write(x, "stuff cd 1 1");
        due.is("wall() behind wall()", x.wall(), 1);
        due.is("the shorter number behind wall()", x.stuff(1, 1), 1);
        Due.write(x, "abc");
        x.erase();
        Due.write(x, "ab");
        due.is("find() behind erase()", x.find(), 0);
        x.erase();
        due.is("find() of nothing", x.find(), NONE);
        Due.write(x, "wall");
        due.is("fault() of the word alone", x.fault(), 4);
    }

    // "A letter (its number, 0 .. 255)"
    private static void lettersAreNumbers0To255() {
        WallHeat x = new WallHeat();
        due.is("write(-1)", x.write(-1), OUTSIDE);
        due.is("write(256)", x.write(256), OUTSIDE);
        due.is("no letter yet", x.count(15), 0);
        due.is("write(0)", x.write(0), 1);
        due.is("write(255)", x.write(255), 2);
        // 256 more than a letter is not that letter
        due.is("write(256 + 'a')", x.write(256 + 'a'), OUTSIDE);
        due.is("two letters", x.count(15), 2);
    }

    // "CLAUSES with ; between, 24 at most"
    private static void clausesAre24AtMost() {
        String[] last = {"wall 9", "stuff a 1 1", "air 1 1"};
        for (String clause : last) {
            StringBuilder text = new StringBuilder();
            for (int i = 1; i < 24; i++) text.append("wall1;");
            read(text + clause);
            WallHeat x = new WallHeat();
            Due.write(x, text + clause);
            due.is("wall() of 24", x.wall(), 24);
            read(text + clause + "^;wall1");
            read(text + clause + " ^; " + clause);
            read(text + clause + "^;");
        }
        // each text has its own 24
        StringBuilder text = new StringBuilder("wall1");
        for (int i = 1; i < 23; i++) text.append(";wall1");
        WallHeat x = new WallHeat();
        Due.write(x, text.toString());
        due.is("wall() of 23", x.wall(), 23);
        Due.write(x, "wall1;wall2");
        due.is("wall() of 2 behind 23", x.wall(), 2);
    }

    // a text without a clause ends too soon
    private static void clausesAreAtLeastOne() {
        due.is("fault() of the empty text", new WallHeat().fault(), 0);
        due.is("wall() of the empty text", new WallHeat().wall(), NOT);
        read("   ^");
        read("^;");
        read("^;wall 1");
        read("wall 1;^");
        read("wall 1; ^");
        read("wall 1;^;wall 1");
    }

    // "numbers of 1 to 4 digits"; "a number .. of more digits"
    private static void numbersHaveOneToFourDigits() {
        String[] nines = {"7", "07", "007", "0007"};
        for (String n : nines) due.is("STEP 1 by " + n, Due.told("wall " + n).count(4), 7);
        read("wall ^00007");
        read("stuff a 0020 0020");
        read("stuff a ^00020 1");
        read("stuff a 1 ^00020");
        read("stuff a 1 1;layer a 0009");
        read("stuff a 1 1;layer a ^00009");
        read("air 0000 0000");
        read("air ^00000 0");
        read("air 0 ^00000");
        read(ONE + "heat 0000 0000");
        read(ONE + "heat ^00000 0");
        read(ONE + "heat 0 ^00000");
        // what would wrap around to a number within the bounds
        read("wall ^4294967297");
        read("wall ^18446744073709551617");
        read("wall ^65537");
    }

    // "blanks between"
    private static void blanksStandBetween() {
        read("    wall     7    ;    air    1     2     ");
        read("wall7;stuff a1 1;layer a1;air1 1;heat0 1");
        read("wall 1 ^2");
        read("^wa ll 12");
        read("stuff a ^b");
        for (int letter = 0; letter < 256; letter++) {
            if (letter == ' ') continue;
            boolean digit = letter >= '0' && letter <= '9';
            boolean small = letter >= 'a' && letter <= 'z';
            // a small letter makes the word longer, a digit the number; nothing else is a blank
            int want = small ? 0 : digit ? NONE : 4;
            due.is("fault() of wall, letter " + letter + ", 7", Due.fault(new WallHeat(), "wall" + (char) letter + "7"), want);
        }
    }

    private static void formed(WallHeat x, String... tokens) {
        StringBuilder ahead = new StringBuilder(" ");
        String[] wrong = {".", "A", ";", "-"};
        for (String token : tokens) {
            read(x, ahead + "^");
            for (String one : wrong) read(x, ahead + "^" + one + " 1");
            read(x, ahead + "^" + (Character.isDigit(token.charAt(0)) ? "x" : "1"));
            ahead.append(token).append(' ');
        }
        read(x, ahead.toString());
        read(x, ahead + "^1");
        read(x, ahead + "^a");
        read(x, ahead + "^.");
        read(x, ahead + ";^");
        read(x, ahead + "; air 1 1");
    }

    // "each is one of: wall T. stuff W K C. layer W N. air L R. heat I H."; "or at the end, if it comes too soon"
    private static void eachTokenOfEachClause() {
        String wall = cells(2);
        formed(new WallHeat(), "wall", "7");
        formed(Due.told(wall), "stuff", "b", "1", "2");
        formed(Due.told(wall), "layer", "a", "3");
        formed(new WallHeat(), "air", "3", "4");
        formed(Due.told(wall), "heat", "1", "4");
        String[] words = {"wal", "walls", "awall", "stuf", "stuffs", "laye", "layers", "ai", "airs", "hea", "heats", "xall", "xtuff", "xayer", "xir", "xeat", "x", "w", "Wall", "wALL", "WALL"};
        for (String word : words) read("^" + word + " 1 1");
    }

    // "the first TOKEN (a row of small letters, a row of digits, any other letter)"
    private static void tokensAreRowsOrSingle() {
        read("wall ^12345x");
        read("wall ^1234");
        read("wall 7^x7");
        read("wall 7^..");
        read("wall 7 ^.;");
        read("air 1^.2");
        read("air 1^-2");
        read("stuff a^;;");
        read("wall 7;^xyz7");
        read("^\u00e9wall 7");
        read("wall 7 ^\u0000");
        // of two FAULTS it is at the first
        read("wall ^0;wall 0");
        read("air ^1000 1000;x");
    }

    // "CLAUSES are done in their order"
    private static void clausesAreDoneInTheirOrder() {
        WallHeat x = Due.told(ONE + "heat 0 5;heat 0 6;air 1 2;air 3 4;wall 5;wall 6");
        due.is("the later wall", x.count(4), 6);
        due.is("no CELLS behind wall", x.count(1), 0);
        due.is("no STUFFS behind wall", x.count(0), 0);
        due.is("l behind wall", x.count(2), 0);
        due.is("r behind wall", x.count(3), 0);
        x = Due.told("air 1 2;wall 5;air 3 4;" + ONE + "heat 0 5;heat 0 6;stuff b 2 2;layer b 1");
        due.is("the later air, l", x.count(2), 3);
        due.is("the later air, r", x.count(3), 4);
        due.is("the later heat", x.cell(0, 1), 6);
        due.is("the first STUFF", x.stuff(0, 0), 1);
        due.is("the later STUFF", x.stuff(1, 0), 2);
        due.is("the later layer", x.cell(1, 0), 1);
    }

    // "wall: STEP is 1 by T, all else as at first"
    private static void wallIsAllAsAtFirst() {
        WallHeat x = Due.told(cells(3) + ";heat 1 500;air 7 8");
        x.step(3);
        Due.write(x, "wall 40");
        due.is("wall()", x.wall(), 1);
        int[] first = {0, 0, 0, 0, 40, 1, 0, 0, 0, -1, -1, 0, 0, 0, 0, 0};
        for (int i = 0; i < first.length; i++) due.is("as at first: count(" + i + ")", x.count(i), first[i]);
        due.is("as at first: stuff(0, 0)", x.stuff(0, 0), UNKNOWN);
        due.is("as at first: cell(0, 0)", x.cell(0, 0), UNKNOWN);
        Due.write(x, "a");
        due.is("as at first: find()", x.find(), NONE);
    }

    // "what was told or done stays"
    private static void whatWasToldOrDoneStays() {
        WallHeat x = Due.told("wall 9;stuff a 3 4;layer a 2;heat 1 50;air 7 8");
        x.heat(0, 12);
        x.air(0, 100);
        x.pace(8);
        x.step(1);
        int left = x.cell(0, 1);
        int right = x.cell(1, 1);
        due.isTrue("the step did something", left != 12 && right != 50);
        Due.write(x, "stuff b 5 6;layer b 1");
        x.wall();
        due.is("STUFFS", x.count(0), 2);
        due.is("k stays", x.stuff(0, 0), 3);
        due.is("c stays", x.stuff(0, 1), 4);
        due.is("CELLS", x.count(1), 3);
        due.is("its CELLS stay", x.stuff(0, 3), 3);
        due.is("HEAT of CELL 0 stays", x.cell(0, 1), left);
        due.is("HEAT of CELL 1 stays", x.cell(1, 1), right);
        due.is("HEAT of CELL 2", x.cell(2, 1), 0);
        due.is("l stays", x.count(2), 100);
        due.is("r stays", x.count(3), 8);
        due.is("t stays", x.count(4), 8);
    }

    private static WallHeat used() {
        WallHeat x = Due.told(cells(2) + ";air 900 100");
        x.step(2);
        x.keep(0);
        x.keep(1);
        x.heat(0, 1);
        for (int i = 0; i < 3; i++) {
            x.page(i);
            x.put(i, i, i, i);
        }
        return x;
    }

    private static WallHeat toldMore() {
        WallHeat x = used();
        Due.write(x, "heat 0 3");
        x.wall();
        return x;
    }

    // "Behind them THE BOOKS of what went in and out are 0"
    private static void booksOfInAndOutAreNone() {
        due.isTrue("IN ahead of the text", used().count(7) > 0);
        due.isTrue("OUT ahead of the text", used().count(8) < 0);
        due.is("IN behind the text", toldMore().count(7), 0);
        due.is("OUT behind the text", toldMore().count(8), 0);
    }

    // "no STEP was"
    private static void noStepWas() {
        due.is("STEPS ahead of the text", used().count(12), 2);
        due.is("STEPS behind the text", toldMore().count(12), 0);
    }

    // "nothing is kept or can be undone"
    private static void nothingIsKeptOrUndone() {
        due.is("undoable ahead of the text", used().count(14), 2);
        due.is("undoable behind the text", toldMore().count(14), 0);
        due.is("undo() behind the text", toldMore().undo(), NOT);
        due.isTrue("kept 0 ahead of the text", used().back(0) >= 0);
        due.isTrue("kept 1 ahead of the text", used().back(1) >= 0);
        due.is("back(0) behind the text", toldMore().back(0), NOT);
        due.is("back(1) behind the text", toldMore().back(1), NOT);
    }

    // "PAGES are all missing"
    private static void pagesAreAllMissing() {
        for (int page = 0; page < 3; page++) {
            due.is("PAGE ahead of the text", used().get(page, page, page), page);
            due.is("PAGE behind the text", toldMore().get(page, page, page), WallHeat.NULL);
        }
        due.is("KEYS ahead of the text", used().count(13), 3);
        due.is("KEYS behind the text", toldMore().count(13), 0);
    }

    // "NOT: it has a FAULT"
    private static void faultyTextIsNotDone() {
        String[] texts = {"", " ", "wall", "wall 0", "wall 7;", "heat 0 3;air 1 1;wall 1;x"};
        for (String text : texts) {
            WallHeat x = used();
            Due.write(x, text);
            due.is("wall() of \"" + text + "\"", x.wall(), NOT);
            due.is("its letters stay", x.count(15), text.length());
            due.is("its KEYS stay", x.count(13), 3);
            due.is("its CELLS stay", x.count(1), 2);
            due.is("its l stays", x.count(2), 900);
        }
        WallHeat x = new WallHeat();
        Due.write(x, "wall ");
        due.is("wall() of wall", x.wall(), NOT);
        x.write('8');
        due.is("wall() of wall 8", x.wall(), 1);
        due.is("what stood there was read", x.count(4), 8);
        due.is("THE TEXT is empty then", x.count(15), 0);
    }

    // fault() tells a place, and nothing more
    private static void faultChangesNothing() {
        WallHeat x = used();
        Due.write(x, "wall 7;stuff c 2 2;layer c 3;air 1 2;heat 0 9");
        due.is("fault()", x.fault(), NONE);
        due.is("fault() again", x.fault(), NONE);
        int[] want = {1, 2, 900, 100, 40};
        for (int i = 0; i < want.length; i++) due.is("behind fault(): count(" + i + ")", x.count(i), want[i]);
        due.is("behind fault(): steps", x.count(12), 2);
        due.is("behind fault(): keys", x.count(13), 3);
        due.is("behind fault(): undoable", x.count(14), 2);
        due.is("behind fault(): letters", x.count(15), 45);
        due.is("wall() yet", x.wall(), 5);
    }

    // "how many there were"
    private static void wallTellsHowMany() {
        for (int many = 1; many <= 24; many++) {
            WallHeat x = new WallHeat();
            for (int i = 0; i < many; i++) Due.write(x, i == 0 ? "wall 3" : ";wall 3");
            due.is("wall() of " + many, x.wall(), many);
        }
    }

    private static void find(WallHeat x, String text, int want) {
        x.erase();
        Due.write(x, text);
        due.is("find() of \"" + text + "\"", x.find(), want);
        due.is("find() leaves the text", x.count(15), text.length());
    }

    // "The STUFF whose WORD THE TEXT is (without blanks); NONE."
    private static void findsByTheWholeWord() {
        find(new WallHeat(), "", NONE);
        find(new WallHeat(), "a", NONE);
        WallHeat x = Due.told(stuffs(5) + ";stuff abcdefg 1 1");
        for (int i = 0; i < 5; i++) find(x, "" + (char) ('a' + i), i);
        find(x, "abcdefg", 5);
        find(x, "   abcdefg   ", 5);
        find(x, "abcdefgh", NONE);
        find(x, "abcdef", NONE);
        find(x, "bcdefg", NONE);
        find(x, "aa", NONE);
        find(x, "f", NONE);
        find(x, "", NONE);
        find(x, " ", NONE);
        find(x, "a;", NONE);
        find(x, "a1", NONE);
        find(x, "A", NONE);
        find(x, "\ta", NONE);
        find(x, "stuff a 1 1", NONE);
        x = Due.told("stuff a 1 1");
        for (int i = 0; i < 199; i++) x.write(' ');
        x.write('a');
        due.is("find() in 200 letters", x.find(), 0);
        due.is("find() changes nothing", x.count(15), 200);
    }
}
