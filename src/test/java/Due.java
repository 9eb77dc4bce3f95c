/** Tells every call whose answer is not the one that is due. */
final class Due {
    private static final long MOST_MILLIS = 300_000;

    private final String name;
    private int wrong = 0;
    private int all = 0;

    Due(String name) {
        this.name = name;
        Thread watch = new Thread(this::endIfStuck);
        watch.setDaemon(true);
        watch.start();
    }

    /** A call that does not end is a fault too, and must not hold up all other tests. */
    private void endIfStuck() {
        try {
            Thread.sleep(MOST_MILLIS);
        } catch (InterruptedException e) {
            return;
        }
        System.out.println(name + ": did not end");
        Runtime.getRuntime().halt(1);
    }

    void is(String call, long got, long want) {
        all++;
        if (got == want) return;
        wrong++;
        if (wrong <= 20) System.out.println(name + ": " + call + " answered " + got + ", due is " + want);
    }

    void isTrue(String what, boolean so) {
        is(what, so ? 1 : 0, 1);
    }

    /** Tells how many answers were wrong, and ends the program with 1 if there was one. */
    void end() {
        System.out.println(name + ": " + all + " answers, " + wrong + " of them not as due");
        if (wrong != 0 || all == 0) System.exit(1);
    }

    static void write(WallHeat x, String text) {
        for (int i = 0; i < text.length(); i++) x.write(text.charAt(i));
    }

    /** A new object on which the text is done. */
    static WallHeat told(String text) {
        WallHeat x = new WallHeat();
        write(x, text);
        if (x.wall() == WallHeat.NOT) throw new IllegalStateException("this text has a fault: " + text);
        return x;
    }

    /** FAULT of a text on an object, whose TEXT is empty again then. */
    static int fault(WallHeat x, String text) {
        x.erase();
        write(x, text);
        int place = x.fault();
        x.erase();
        return place;
    }
}
