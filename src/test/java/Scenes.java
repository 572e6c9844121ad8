/** Menageries to begin a test with. */
final class Scenes {
    static final int FAILED_BEFORE = 5;
    static final String ZOO = "0=133500/2h 1=75000/1d 2=990000/0u 3=1/4e crumbs -949 escapes 1 accounts 1198501";

    private Scenes() {
    }

    static DecimalMenagerie none() {
        return new DecimalMenagerie();
    }

    static DecimalMenagerie one(int whole, int fraction, int scale, char mode) {
        DecimalMenagerie m = new DecimalMenagerie();
        m.addNumber(whole, fraction, scale, mode);
        return m;
    }

    /** Numbers of the finest scale, given in units. */
    static DecimalMenagerie units(long... values) {
        DecimalMenagerie m = new DecimalMenagerie();
        for (long value : values) {
            m.addNumber((int) (value / 10000), (int) (value % 10000), 4, 'd');
        }
        return m;
    }

    /**
     * The numbers 0 to 3 with all that a call could change by mistake: crumbs, an escape, more than eight calls
     * to undo, another state that is saved, stored positions, a line, and an unfinished program.
     */
    static DecimalMenagerie zoo() {
        DecimalMenagerie m = new DecimalMenagerie();
        m.addNumber(12, 3400, 2, 'h');
        dressUp(m);
        m.addNumber(7, 5000, 1, 'd');
        m.addNumber(100, 0, 0, 'u');
        m.addNumber(999999, 9999, 4, 'e');
        m.feed(3, 0, 2);
        m.feed(0, 0, 50);
        m.save();
        m.feed(1, 0, 999);
        m.setMode(1, 'l');
        m.setMode(1, 'd');
        m.trade(2, 0, 1, 0);
        m.setScale(3, 4);
        return m;
    }

    /** As the zoo, but without the number 1. */
    static DecimalMenagerie withGap() {
        DecimalMenagerie m = zoo();
        m.remove(1);
        return m;
    }

    /** As the zoo, with the numbers 4 and 5, so that there are six. */
    static DecimalMenagerie full() {
        DecimalMenagerie m = zoo();
        m.addQuotient(1, 3, 4, 'l');
        m.addNumber(0, 5000, 1, 'e');
        return m;
    }

    /** Two numbers and three calls to undo, so that one more can be undone and none is lost by it. */
    static DecimalMenagerie young() {
        DecimalMenagerie m = new DecimalMenagerie();
        m.addNumber(12, 3456, 4, 'h');
        dressUp(m);
        m.addNumber(999999, 5000, 1, 'u');
        m.save();
        m.feed(0, 1, 1);
        return m;
    }

    /** Before the last changes, so that no refused call has been just ahead of what a test calls. */
    private static void dressUp(DecimalMenagerie m) {
        run(m, "free x");
        run(m, "mode 0 d;mode 0 d;mode 0 d;mode 0 d;mode 0 d;free 9");
        m.writeQuotient(1, 6);
        Checks.append(m, "mode 0 ");
    }

    /** The answer of run, or the class of the exception. */
    static Object run(DecimalMenagerie m, String program) {
        Checks.append(m, program);
        return Edges.answer(m, DecimalMenagerie::run);
    }
}
