/** Promises 22 to 28: the pages. */
final class PagesTest {
    private static final Due due = new Due("PagesTest");
    private static final int UNKNOWN = WallHeat.UNKNOWN, OUTSIDE = WallHeat.OUTSIDE, NULL = WallHeat.NULL, KEY = WallHeat.KEY, ROOM = WallHeat.ROOM;

    public static void main(String[] args) {
        missing();
        unknown();
        outside();
        looked();
        room();
        struck();
        commons();
        sums();
        dropped();
        apart();
        due.end();
    }

    private static void missing() {
        WallHeat x = new WallHeat();
        x.page(1);
        for (int page = 0; page <= 2; page += 2) {
            due.is("put()", x.put(page, 0, 0, 0), NULL);
            due.is("get()", x.get(page, 0, 0), NULL);
            due.is("strike()", x.strike(page, 0, 0), NULL);
            due.is("common()", x.common(page, 1), NULL);
            due.is("common() with", x.common(1, page), NULL);
            due.is("common() of itself", x.common(page, page), NULL);
            due.is("sum()", x.sum(page, 0), NULL);
            due.is("drop()", x.drop(page), NULL);
            due.is("put() outside", x.put(page, 26, 0, 0), OUTSIDE);
            due.is("get() outside", x.get(page, 26, 0), OUTSIDE);
            due.is("strike() outside", x.strike(page, 26, 0), OUTSIDE);
            due.is("sum() outside", x.sum(page, 3), OUTSIDE);
        }
    }

    private static void unknown() {
        WallHeat x = new WallHeat();
        x.page(0);
        int[] pages = {-1, 3, Integer.MIN_VALUE, Integer.MAX_VALUE};
        for (int page : pages) {
            due.is("page()", x.page(page), UNKNOWN);
            due.is("put()", x.put(page, 26, 0, 0), UNKNOWN);
            due.is("get()", x.get(page, 26, 0), UNKNOWN);
            due.is("strike()", x.strike(page, 26, 0), UNKNOWN);
            due.is("common()", x.common(page, 0), UNKNOWN);
            due.is("common() with", x.common(0, page), UNKNOWN);
            due.is("common() of a missing one", x.common(1, page), UNKNOWN);
            due.is("common() with a missing one", x.common(page, 1), UNKNOWN);
            due.is("sum()", x.sum(page, 3), UNKNOWN);
            due.is("drop()", x.drop(page), UNKNOWN);
        }
    }

    private static void outside() {
        WallHeat x = new WallHeat();
        x.page(0);
        int[][] wrong = {{-1, 0}, {26, 0}, {0, -100}, {0, 100}, {Integer.MIN_VALUE, 0}, {0, Integer.MAX_VALUE}};
        for (int[] key : wrong) {
            due.is("put()", x.put(0, key[0], key[1], 0), OUTSIDE);
            due.is("get()", x.get(0, key[0], key[1]), OUTSIDE);
            due.is("strike()", x.strike(0, key[0], key[1]), OUTSIDE);
        }
        due.is("put() of 1000", x.put(0, 0, 0, 1000), OUTSIDE);
        due.is("put() of -1000", x.put(0, 0, 0, -1000), OUTSIDE);
        due.is("sum(0, 3)", x.sum(0, 3), OUTSIDE);
        due.is("sum(0, -1)", x.sum(0, -1), OUTSIDE);
        due.is("keys", x.sum(0, 1), 0);
    }

    private static void looked() {
        WallHeat x = new WallHeat();
        due.is("page(2)", x.page(2), 0);
        due.is("put() at the edges", x.put(2, 0, -99, -999), 0);
        due.is("put() at the edges", x.put(2, 25, 99, 999), 0);
        due.is("get()", x.get(2, 0, -99), -999);
        due.is("get()", x.get(2, 25, 99), 999);
        due.is("get() of another number", x.get(2, 0, 99), KEY);
        due.is("get() of another letter", x.get(2, 25, -99), KEY);
        due.is("put() again", x.put(2, 0, -99, 5), -999);
        due.is("get() again", x.get(2, 0, -99), 5);
        due.is("put() of 0", x.put(2, 0, -99, 0), 5);
        due.is("get() of 0", x.get(2, 0, -99), 0);
        due.is("keys", x.sum(2, 1), 2);
        due.is("page(2) anew", x.page(2), 0);
        due.is("keys anew", x.sum(2, 1), 0);
        due.is("get() anew", x.get(2, 0, -99), KEY);
    }

    private static void room() {
        WallHeat x = new WallHeat();
        x.page(0);
        for (int i = 0; i < 8; i++) due.is("put() of key " + i, x.put(0, i, -i, i * i), 0);
        due.is("put() of key 8", x.put(0, 8, 0, 1), ROOM);
        due.is("put() of key 8, outside", x.put(0, 8, 0, 1000), OUTSIDE);
        due.is("put() of an old key", x.put(0, 7, -7, 1), 49);
        due.is("keys", x.sum(0, 1), 8);
        due.is("strike()", x.strike(0, 3, -3), 9);
        due.is("put() of key 8 again", x.put(0, 8, 0, 1), 0);
        due.is("put() of key 3 again", x.put(0, 3, -3, 1), ROOM);
        due.is("count(13)", x.count(13), 8);
    }

    private static void struck() {
        for (int struck = 0; struck < 3; struck++) {
            WallHeat x = new WallHeat();
            x.page(1);
            for (int i = 0; i < 3; i++) x.put(1, 4, i, 10 + i);
            due.is("strike()", x.strike(1, 4, struck), 10 + struck);
            due.is("strike() again", x.strike(1, 4, struck), KEY);
            due.is("keys", x.sum(1, 1), 2);
            for (int i = 0; i < 3; i++) due.is("get(1, 4, " + i + ")", x.get(1, 4, i), i == struck ? KEY : 10 + i);
        }
        WallHeat x = new WallHeat();
        x.page(1);
        due.is("strike() of nothing", x.strike(1, 0, 0), KEY);
        x.put(1, 4, 5, 6);
        due.is("strike() of another", x.strike(1, 5, 4), KEY);
    }

    private static void commons() {
        WallHeat x = new WallHeat();
        x.page(0);
        x.page(2);
        due.is("common() of nothing", x.common(0, 2), 0);
        x.put(0, 1, 1, 7);
        x.put(0, 1, 2, 7);
        x.put(0, 2, 1, 7);
        x.put(0, 3, 3, 7);
        x.put(2, 3, 3, 8);
        x.put(2, 2, 1, 7);
        x.put(2, 1, 1, 7);
        x.put(2, 9, 9, 7);
        due.is("common(0, 2)", x.common(0, 2), 2);
        due.is("common(2, 0)", x.common(2, 0), 2);
        due.is("common(0, 0)", x.common(0, 0), 4);
        x.put(2, 3, 3, 7);
        due.is("common(0, 2) behind", x.common(0, 2), 3);
        x.strike(0, 1, 1);
        due.is("common(0, 2) less", x.common(0, 2), 2);
    }

    private static void sums() {
        WallHeat x = new WallHeat();
        x.page(0);
        for (int what = 0; what < 3; what++) due.is("sum(0, " + what + ") of nothing", x.sum(0, what), 0);
        x.put(0, 1, 50, 10);
        x.put(0, 2, -99, -900);
        x.put(0, 3, 7, 4);
        due.is("sum(0, 0)", x.sum(0, 0), -886);
        due.is("sum(0, 1)", x.sum(0, 1), 3);
        due.is("sum(0, 2)", x.sum(0, 2), -42);
        x.strike(0, 1, 50);
        due.is("sum(0, 0) less", x.sum(0, 0), -896);
        due.is("sum(0, 1) less", x.sum(0, 1), 2);
        due.is("sum(0, 2) less", x.sum(0, 2), -92);
    }

    private static void dropped() {
        WallHeat x = new WallHeat();
        x.page(0);
        x.page(1);
        x.put(0, 1, 1, 1);
        x.put(0, 1, 2, 1);
        x.put(1, 1, 1, 1);
        due.is("count(13)", x.count(13), 3);
        due.is("drop(0)", x.drop(0), 2);
        due.is("count(13) less", x.count(13), 1);
        due.is("drop(0) again", x.drop(0), NULL);
        due.is("get(0, 1, 1)", x.get(0, 1, 1), NULL);
        due.is("the other one stays", x.get(1, 1, 1), 1);
        due.is("page(0) again", x.page(0), 0);
        due.is("get(0, 1, 1) again", x.get(0, 1, 1), KEY);
        due.is("drop(0) of nothing", x.drop(0), 0);
    }

    private static void apart() {
        WallHeat x = new WallHeat();
        WallHeat y = new WallHeat();
        x.page(0);
        x.page(1);
        y.page(0);
        x.put(0, 1, 1, 1);
        due.is("another page has its own keys", x.get(1, 1, 1), KEY);
        due.is("another object has its own keys", y.get(0, 1, 1), KEY);
        x.air(0, 5);
        due.is("pages are not undone", x.undo(), 0);
        due.is("the key stays", x.get(0, 1, 1), 1);
    }
}
