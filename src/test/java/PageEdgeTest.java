/**
 * Chapter 4 of the Terms and promises 22 to 28: each sentence that names a bound has a method here, with the last that
 * still stands and the first that does not.
 */
final class PageEdgeTest {
    private static final Due due = new Due("PageEdgeTest");
    private static final int UNKNOWN = WallHeat.UNKNOWN, OUTSIDE = WallHeat.OUTSIDE, NULL = WallHeat.NULL, KEY = WallHeat.KEY, ROOM = WallHeat.ROOM;
    private static final int LOWEST = Integer.MIN_VALUE, HIGHEST = Integer.MAX_VALUE;

    public static void main(String[] args) {
        pagesAreMissingAtFirst();
        pagesAreThree();
        pageIsANewOne();
        lettersAre0To25();
        numbersAreUpTo99();
        valuesAreUpTo999();
        keysAreOfALetterAndANumber();
        keysAreEightAtMost();
        roomIsForEachPage();
        putTellsWhatThereWas();
        getTellsNullThenKey();
        strikeTellsTheValue();
        commonIsOfLikeKeysAndValues();
        commonIsNullOfEither();
        sumIsOfThree();
        dropIsMissingFromNowOn();
        keysOfAllPagesAreCounted();
        due.end();
    }

    private static WallHeat pages() {
        WallHeat x = new WallHeat();
        for (int page = 0; page < 3; page++) x.page(page);
        return x;
    }

    private static void fill(WallHeat x, int page, int many) {
        for (int i = 0; i < many; i++) due.is("put() of KEY " + i, x.put(page, i, 10 - i, 100 + i), 0);
    }

    // "PAGES 0 .. 2 are missing (at first)"
    private static void pagesAreMissingAtFirst() {
        for (int page = 0; page < 3; page++) {
            WallHeat x = new WallHeat();
            due.is("put()", x.put(page, 0, 0, 0), NULL);
            due.is("get()", x.get(page, 0, 0), NULL);
            due.is("strike()", x.strike(page, 0, 0), NULL);
            due.is("common()", x.common(page, page), NULL);
            for (int what = 0; what < 3; what++) due.is("sum()", x.sum(page, what), NULL);
            due.is("drop()", x.drop(page), NULL);
            due.is("page()", x.page(page), 0);
            due.is("get() of a book", x.get(page, 0, 0), KEY);
            for (int other = 0; other < 3; other++) if (other != page) due.is("get() of another", x.get(other, 0, 0), NULL);
        }
    }

    // "UNKNOWN (no such .. PAGE)"
    private static void pagesAreThree() {
        WallHeat x = pages();
        for (int page = 0; page < 3; page++) {
            due.is("page()", x.page(page), 0);
            due.is("put()", x.put(page, 1, 1, page), 0);
            due.is("get()", x.get(page, 1, 1), page);
        }
        for (int page : new int[] {-1, 3, LOWEST, HIGHEST}) {
            due.is("page()", x.page(page), UNKNOWN);
            due.is("put()", x.put(page, 1, 1, 1), UNKNOWN);
            due.is("get()", x.get(page, 1, 1), UNKNOWN);
            due.is("strike()", x.strike(page, 1, 1), UNKNOWN);
            due.is("sum()", x.sum(page, 0), UNKNOWN);
            due.is("drop()", x.drop(page), UNKNOWN);
            for (int other = 0; other < 3; other++) {
                due.is("common()", x.common(page, other), UNKNOWN);
                due.is("common() with", x.common(other, page), UNKNOWN);
            }
        }
        due.is("KEYS", x.count(13), 3);
    }

    // "A PAGE is a new one, with nothing: 0."
    private static void pageIsANewOne() {
        for (int many : new int[] {0, 1, 8}) {
            WallHeat x = pages();
            fill(x, 1, many);
            fill(x, 2, 2);
            due.is("page(1)", x.page(1), 0);
            due.is("KEYS of it", x.sum(1, 1), 0);
            due.is("KEYS of all", x.count(13), 2);
            due.is("get() of what was there", x.get(1, 0, 10), KEY);
            fill(x, 1, 8);
        }
    }

    // "a letter (0 .. 25)"
    private static void lettersAre0To25() {
        WallHeat x = pages();
        for (int letter : new int[] {0, 1, 24, 25}) {
            due.is("put()", x.put(0, letter, 0, 5), 0);
            due.is("get()", x.get(0, letter, 0), 5);
        }
        for (int letter : new int[] {-1, 26, 97, LOWEST, HIGHEST}) {
            due.is("put()", x.put(0, letter, 0, 5), OUTSIDE);
            due.is("get()", x.get(0, letter, 0), OUTSIDE);
            due.is("strike()", x.strike(0, letter, 0), OUTSIDE);
        }
        due.is("KEYS", x.sum(0, 1), 4);
        for (int letter : new int[] {0, 1, 24, 25}) due.is("strike()", x.strike(0, letter, 0), 5);
    }

    // "a number (-99 .. 99)"
    private static void numbersAreUpTo99() {
        WallHeat x = pages();
        for (int number : new int[] {-99, -98, 0, 98, 99}) {
            due.is("put()", x.put(0, 3, number, 5), 0);
            due.is("get()", x.get(0, 3, number), 5);
        }
        for (int number : new int[] {-100, 100, LOWEST, HIGHEST}) {
            due.is("put()", x.put(0, 3, number, 5), OUTSIDE);
            due.is("get()", x.get(0, 3, number), OUTSIDE);
            due.is("strike()", x.strike(0, 3, number), OUTSIDE);
        }
        due.is("KEYS", x.sum(0, 1), 5);
        for (int number : new int[] {-99, -98, 0, 98, 99}) due.is("strike()", x.strike(0, 3, number), 5);
    }

    // "a value (-999 .. 999)"
    private static void valuesAreUpTo999() {
        WallHeat x = pages();
        int was = 0;
        for (int value : new int[] {-999, -998, -1, 0, 998, 999}) {
            due.is("put()", x.put(0, 3, 3, value), was);
            due.is("get()", x.get(0, 3, 3), value);
            was = value;
        }
        for (int value : new int[] {-1000, 1000, LOWEST, HIGHEST}) {
            due.is("put() of an old KEY", x.put(0, 3, 3, value), OUTSIDE);
            due.is("put() of a new KEY", x.put(0, 3, 4, value), OUTSIDE);
        }
        due.is("the value stays", x.get(0, 3, 3), 999);
        due.is("no new KEY", x.get(0, 3, 4), KEY);
    }

    // "unlike KEYS, of a letter .. and a number"
    private static void keysAreOfALetterAndANumber() {
        WallHeat x = pages();
        x.put(0, 1, 2, 12);
        due.is("another number", x.get(0, 1, 3), KEY);
        due.is("a number below 0", x.get(0, 1, -2), KEY);
        due.is("another letter", x.get(0, 0, 2), KEY);
        due.is("both turned", x.get(0, 2, 1), KEY);
        due.is("put() turned", x.put(0, 2, 1, 21), 0);
        due.is("put() below 0", x.put(0, 1, -2, -12), 0);
        due.is("get()", x.get(0, 1, 2), 12);
        due.is("get() turned", x.get(0, 2, 1), 21);
        due.is("get() below 0", x.get(0, 1, -2), -12);
        // no two KEYS are one: as far as may be from another
        x.put(1, 0, 99, 1);
        due.is("letter 1, number -99", x.get(1, 1, -99), KEY);
        due.is("letter 1, number -1", x.get(1, 1, -1), KEY);
        due.is("letter 1, number 0", x.get(1, 1, 0), KEY);
    }

    // "0 to 8 unlike KEYS"; "ROOM (there would be more than 8)"; "ROOM (a new KEY)"
    private static void keysAreEightAtMost() {
        WallHeat x = pages();
        due.is("KEYS of none", x.sum(0, 1), 0);
        fill(x, 0, 8);
        due.is("KEYS of the full", x.sum(0, 1), 8);
        due.is("put() of the ninth", x.put(0, 20, 20, 1), ROOM);
        due.is("put() of the ninth with 0", x.put(0, 20, 20, 0), ROOM);
        due.is("get() of the ninth", x.get(0, 20, 20), KEY);
        for (int i = 0; i < 8; i++) due.is("put() of an old KEY " + i, x.put(0, i, 10 - i, i), 100 + i);
        due.is("KEYS yet", x.sum(0, 1), 8);
        due.is("strike()", x.strike(0, 5, 5), 5);
        due.is("put() of another eighth", x.put(0, 20, 20, 7), 0);
        due.is("put() of the ninth again", x.put(0, 5, 5, 5), ROOM);
        due.is("strike() of the eighth", x.strike(0, 20, 20), 7);
        due.is("put() of the eighth again", x.put(0, 5, 5, 6), 0);
    }

    // each PAGE has room for 8
    private static void roomIsForEachPage() {
        WallHeat x = pages();
        for (int page = 0; page < 3; page++) fill(x, page, 8);
        due.is("KEYS of all", x.count(13), 24);
        for (int page = 0; page < 3; page++) due.is("put() of the ninth", x.put(page, 25, 0, 0), ROOM);
        x.page(1);
        due.is("put() of the first", x.put(1, 25, 0, 1), 0);
        due.is("put() of the ninth yet", x.put(2, 25, 0, 1), ROOM);
    }

    // "what there was; 0, if there was none"
    private static void putTellsWhatThereWas() {
        WallHeat x = pages();
        due.is("put() of a new KEY", x.put(0, 4, 4, 9), 0);
        due.is("put() of the same value", x.put(0, 4, 4, 9), 9);
        due.is("put() of 0", x.put(0, 4, 4, 0), 9);
        due.is("the KEY is there yet", x.sum(0, 1), 1);
        due.is("put() behind 0", x.put(0, 4, 4, -3), 0);
        due.is("get()", x.get(0, 4, 4), -3);
        due.is("of another PAGE", x.put(1, 4, 4, 1), 0);
    }

    // "UNKNOWN; OUTSIDE; NULL; KEY"
    private static void getTellsNullThenKey() {
        WallHeat x = new WallHeat();
        due.is("of a missing PAGE", x.get(1, 4, 4), NULL);
        x.page(1);
        due.is("of an empty PAGE", x.get(1, 4, 4), KEY);
        x.put(1, 4, 4, 0);
        due.is("of a value 0", x.get(1, 4, 4), 0);
        x.put(1, 4, 4, -1);
        due.is("of a value -1", x.get(1, 4, 4), -1);
        x.drop(1);
        due.is("of a missing PAGE again", x.get(1, 4, 4), NULL);
    }

    // "A KEY is not on a PAGE any more: its value."
    private static void strikeTellsTheValue() {
        for (int struck = 0; struck < 8; struck++) {
            WallHeat x = pages();
            fill(x, 2, 8);
            due.is("strike() of KEY " + struck, x.strike(2, struck, 10 - struck), 100 + struck);
            due.is("strike() again", x.strike(2, struck, 10 - struck), KEY);
            due.is("KEYS", x.sum(2, 1), 7);
            for (int i = 0; i < 8; i++) due.is("get() of KEY " + i, x.get(2, i, 10 - i), i == struck ? KEY : 100 + i);
            due.is("put() anew", x.put(2, struck, 10 - struck, 3), 0);
            due.is("KEYS anew", x.sum(2, 1), 8);
        }
        WallHeat x = new WallHeat();
        due.is("of a missing PAGE", x.strike(0, 1, 1), NULL);
        x.page(0);
        due.is("of an empty PAGE", x.strike(0, 1, 1), KEY);
        x.put(0, 1, 1, 0);
        due.is("of the only KEY", x.strike(0, 1, 1), 0);
        due.is("KEYS", x.sum(0, 1), 0);
        due.is("the PAGE is there", x.get(0, 1, 1), KEY);
    }

    // "KEYS that are on two PAGES (or on one and itself), with like values: how many."
    private static void commonIsOfLikeKeysAndValues() {
        WallHeat x = pages();
        due.is("of two empty ones", x.common(0, 1), 0);
        due.is("of an empty one and itself", x.common(0, 0), 0);
        fill(x, 0, 8);
        due.is("of a full one and itself", x.common(0, 0), 8);
        due.is("of a full and an empty one", x.common(0, 1), 0);
        due.is("of an empty and a full one", x.common(1, 0), 0);
        for (int i = 7; i >= 0; i--) x.put(1, i, 10 - i, 100 + i);
        due.is("of two full ones", x.common(0, 1), 8);
        x.put(1, 0, 10, 99);
        due.is("of unlike values", x.common(0, 1), 7);
        due.is("of unlike values, turned", x.common(1, 0), 7);
        x.strike(1, 7, 3);
        due.is("of a KEY less", x.common(0, 1), 6);
        x.put(1, 7, -3, 107);
        due.is("of another number", x.common(0, 1), 6);
        x.strike(1, 7, -3);
        x.put(1, 17, 3, 107);
        due.is("of another letter", x.common(0, 1), 6);
        x.strike(1, 17, 3);
        due.is("of a KEY struck", x.common(1, 0), 6);
        x.put(1, 7, 3, 107);
        x.strike(1, 7, 3);
        due.is("of a KEY put and struck", x.common(1, 0), 6);
        x.page(1);
        due.is("of a new one", x.common(1, 0), 0);
        // letter 0, number 0, value 0 is a KEY like any other, and no KEY is not that one
        x.put(1, 0, 0, 0);
        due.is("of a KEY of 0 alone", x.common(1, 1), 1);
        due.is("of nothing and a KEY of 0", x.common(2, 1), 0);
        due.is("with the third", x.common(2, 1), 0);
        due.is("of the last and itself", x.common(2, 2), 0);
    }

    // "UNKNOWN; NULL (either)"
    private static void commonIsNullOfEither() {
        WallHeat x = new WallHeat();
        x.page(1);
        due.is("of a missing one", x.common(0, 1), NULL);
        due.is("with a missing one", x.common(1, 0), NULL);
        due.is("of two missing ones", x.common(0, 2), NULL);
        due.is("of a missing one and itself", x.common(2, 2), NULL);
        due.is("of a missing and no such one", x.common(0, 3), UNKNOWN);
        due.is("of no such and a missing one", x.common(-1, 0), UNKNOWN);
    }

    // "All values of a PAGE together (what 0), KEYS (1), the number of the KEYS together (2)."
    private static void sumIsOfThree() {
        WallHeat x = pages();
        for (int what = 0; what < 3; what++) due.is("sum() of nothing", x.sum(0, what), 0);
        for (int what : new int[] {-1, 3, LOWEST, HIGHEST}) due.is("sum(0, " + what + ")", x.sum(0, what), OUTSIDE);
        for (int i = 0; i < 8; i++) x.put(0, 25 - i, 99, 999);
        due.is("the most values", x.sum(0, 0), 8 * 999);
        due.is("the most KEYS", x.sum(0, 1), 8);
        due.is("the most numbers", x.sum(0, 2), 8 * 99);
        for (int i = 0; i < 8; i++) x.put(1, i, -99, -999);
        due.is("the least values", x.sum(1, 0), -8 * 999);
        due.is("the least numbers", x.sum(1, 2), -8 * 99);
        x.put(2, 5, 30, 4);
        x.put(2, 6, -50, 3);
        due.is("values", x.sum(2, 0), 7);
        due.is("numbers", x.sum(2, 2), -20);
        x.put(2, 5, 30, -4);
        due.is("values, changed", x.sum(2, 0), -1);
        due.is("numbers, the same", x.sum(2, 2), -20);
        x.strike(2, 6, -50);
        due.is("values, struck", x.sum(2, 0), -4);
        due.is("numbers, struck", x.sum(2, 2), 30);
    }

    // "A PAGE is missing from now on: how many KEYS it had."
    private static void dropIsMissingFromNowOn() {
        for (int many = 0; many <= 8; many++) {
            WallHeat x = pages();
            fill(x, 1, many);
            fill(x, 0, 1);
            due.is("drop(1)", x.drop(1), many);
            due.is("drop(1) again", x.drop(1), NULL);
            due.is("put()", x.put(1, 0, 0, 0), NULL);
            due.is("the others are there", x.common(0, 2), 0);
            due.is("KEYS of all", x.count(13), 1);
            due.is("page(1)", x.page(1), 0);
            due.is("KEYS of the new one", x.sum(1, 1), 0);
            due.is("values of the new one", x.sum(1, 0), 0);
        }
    }

    // "13 KEYS of all PAGES"
    private static void keysOfAllPagesAreCounted() {
        WallHeat x = pages();
        due.is("KEYS of none", x.count(13), 0);
        for (int page = 0; page < 3; page++) {
            x.put(page, 1, 1, 1);
            due.is("KEYS", x.count(13), page + 1);
        }
        x.put(2, 1, 1, 2);
        due.is("KEYS of an old one", x.count(13), 3);
        x.drop(0);
        due.is("KEYS without PAGE 0", x.count(13), 2);
    }
}
