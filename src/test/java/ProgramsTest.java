import java.util.NoSuchElementException;

/** Promises 37 to 40: programs. */
final class ProgramsTest {
    private static final Checks CHECKS = new Checks("ProgramsTest");

    private ProgramsTest() {
    }

    public static void main(String[] args) {
        promise37Append();
        promise38EachCommand();
        promise38Decimals();
        promise38LongPrograms();
        promise38And40FailedCommands();
        promise38And39ErrorPositions();
        promise38EmptiesTheBuffer();
        promises39And40Stored();
        CHECKS.end();
    }

    private static DecimalMenagerie two() {
        DecimalMenagerie m = new DecimalMenagerie();
        m.addNumber(12, 3400, 2, 'h');
        m.addNumber(7, 5000, 1, 'd');
        return m;
    }

    private static void promise37Append() {
        DecimalMenagerie m = new DecimalMenagerie();
        for (int length = 1; length <= 60; length++) {
            CHECKS.due("append", m.append((char) (length * 1000)), length);
        }
        CHECKS.refused("append to 60 characters", IllegalStateException.class, () -> m.append('a'));
        CHECKS.refused("append to 60 characters", IllegalStateException.class, () -> m.append('a'));
        CHECKS.refused("run", IllegalArgumentException.class, m::run);
        CHECKS.due("append after run", m.append('a'), 1);
        m.addNumber(1, 0, 0, 'd');
        m.undo();
        m.save();
        m.restore();
        CHECKS.due("the buffer is no part of the state", m.append('d'), 2);
    }

    private static void runs(String program, int due, String look) {
        DecimalMenagerie m = two();
        Checks.append(m, program);
        CHECKS.due("run of " + program, m.run(), due);
        CHECKS.due("all after " + program, Checks.look(m), look);
    }

    private static void promise38EachCommand() {
        runs("add 3.5 1 l", 1, "0=123400/2h 1=75000/1d 2=35000/1l crumbs 0 escapes 0 accounts 233400");
        runs("over 5/2 0 e", 1, "0=123400/2h 1=75000/1d 2=20000/0e crumbs 0 escapes 0 accounts 218400");
        runs("free 0", 1, "1=75000/1d crumbs 0 escapes 0 accounts 75000");
        runs("feed 0 0.005", 1, "0=123500/2h 1=75000/1d crumbs 50 escapes 0 accounts 198500");
        runs("trade 0-1 2.34", 1, "0=100000/2h 1=98000/1d crumbs -400 escapes 0 accounts 198000");
        runs("scale 0 0", 1, "0=120000/0h 1=75000/1d crumbs -3400 escapes 0 accounts 195000");
        runs("mode 1 u", 1, "0=123400/2h 1=75000/1u crumbs 0 escapes 0 accounts 198400");
        runs("together 0", 1, "0=120000/0h 1=80000/0d crumbs 1600 escapes 0 accounts 200000");
        runs("free 0;add 1 0 d;free 1", 3, "2=10000/0d crumbs 0 escapes 0 accounts 10000");
        runs("mode 0 d;mode 0 u;mode 0 h;mode 0 l;mode 0 e", 5, "0=123400/2e 1=75000/1d crumbs 0 escapes 0 accounts 198400");
        runs("free 000001", 1, "0=123400/2h crumbs 0 escapes 0 accounts 123400");
    }

    private static void promise38Decimals() {
        runs("add 0.0001 4 d", 1, "0=123400/2h 1=75000/1d 2=1/4d crumbs 0 escapes 0 accounts 198401");
        runs("add 0.001 4 d", 1, "0=123400/2h 1=75000/1d 2=10/4d crumbs 0 escapes 0 accounts 198410");
        runs("add 0.01 4 d", 1, "0=123400/2h 1=75000/1d 2=100/4d crumbs 0 escapes 0 accounts 198500");
        runs("add 0.5 4 d", 1, "0=123400/2h 1=75000/1d 2=5000/4d crumbs 0 escapes 0 accounts 203400");
        runs("add 0.5000 4 d", 1, "0=123400/2h 1=75000/1d 2=5000/4d crumbs 0 escapes 0 accounts 203400");
        runs("add 999999.9999 4 d", 1, "0=123400/2h 1=75000/1d 2=9999999999/4d crumbs 0 escapes 0 accounts 10000198399");
        runs("add 1.25 4 d;add 1 0 d", 2, "0=123400/2h 1=75000/1d 2=12500/4d 3=10000/0d crumbs 0 escapes 0 accounts 220900");
    }

    private static void promise38LongPrograms() {
        DecimalMenagerie m = new DecimalMenagerie();
        Checks.append(m, "add 1 0 d;add 2 0 d;add 3 0 d;add 4 0 d;add 5 0 d;add 6 0 d");
        CHECKS.due("six commands", m.run(), 6);
        Checks.append(m, "free 0;free 1;free 2;free 3;free 4;free 5");
        CHECKS.due("six commands", m.run(), 6);
        CHECKS.due("count", m.count(), 0);
        DecimalMenagerie full = two();
        Checks.append(full, "scale 0 0;scale 0 0;scale 0 0;scale 0 0;scale 0 0;scale 0 00");
        CHECKS.refused("60 characters with an error at the last", IllegalArgumentException.class, full::run);
        CHECKS.due("errorPosition", full.errorPosition(), 59);
        Checks.append(full, "free 6;free 6;free 6;free 6;free 6;free 6;free 6;free 6;free");
        CHECKS.refused("60 characters that go on", IllegalArgumentException.class, full::run);
        CHECKS.due("errorPosition", full.errorPosition(), 60);
        Checks.append(full, "mode 0 d;mode 0 u;mode 0 h;mode 0 l;mode 0 e;mode 000000 u");
        CHECKS.due("58 characters", full.run(), 6);
        CHECKS.due("mode", full.mode(0), 'u');
        Checks.append(full, "free 6;free 6;free 6;free 6;free 6;free 6;free 6;free 6");
        CHECKS.refused("eight commands", UnsupportedOperationException.class, full::run);
        CHECKS.due("failedCommand", full.failedCommand(), 0);
    }

    private static void fails(String program, int due) {
        DecimalMenagerie m = two();
        String before = Checks.look(m);
        Checks.append(m, program);
        CHECKS.refused("run of " + program, UnsupportedOperationException.class, m::run);
        CHECKS.due("all after " + program, Checks.look(m), before);
        CHECKS.due("failed command of " + program, m.failedCommand(), due);
        CHECKS.refused("error position of " + program, NoSuchElementException.class, m::errorPosition);
        CHECKS.due("empty buffer after " + program, m.append('x'), 1);
        CHECKS.due("next id after " + program, m.addNumber(0, 0, 0, 'd'), 2);
    }

    private static void promise38And40FailedCommands() {
        fails("add 0.5 0 d", 0);
        fails("add 1 5 d", 0);
        fails("over 1/0 0 d", 0);
        fails("over 10000/1 0 d", 0);
        fails("over 1/1000 0 d", 0);
        fails("free 2", 0);
        fails("feed 2 1", 0);
        fails("trade 0-0 1", 0);
        fails("trade 0-2 1", 0);
        fails("trade 0-1 12.35", 0);
        fails("trade 0-1 0.001", 0);
        fails("scale 2 0", 0);
        fails("scale 0 5", 0);
        fails("mode 2 d", 0);
        fails("together 9", 0);
        fails("add 1 0 d;free 2;add 1 0 d;free 2", 3);
        fails("feed 0 5;mode 1 u;scale 0 0;together 0;free 0;feed 0 1", 5);
        fails("free 0;free 0;free 1", 1);
        fails("add 1 0 d;add 1 0 d;add 1 0 d;add 1 0 d;add 1 0 d", 4);
    }

    private static void errs(String text, int due) {
        DecimalMenagerie m = two();
        String before = Checks.look(m);
        Checks.append(m, text);
        CHECKS.refused("run of " + text, IllegalArgumentException.class, m::run);
        CHECKS.due("all after " + text, Checks.look(m), before);
        CHECKS.due("error position of " + text, m.errorPosition(), due);
        CHECKS.refused("failed command of " + text, NoSuchElementException.class, m::failedCommand);
        CHECKS.due("empty buffer after " + text, m.append('x'), 1);
        m.undo();
        CHECKS.due("calls to undo after " + text, m.undo(), 0);
    }

    private static void promise38And39ErrorPositions() {
        String[] prefixes = {"", "a", "ad", "add", "add ", "add 1", "add 1.", "add 1.2345", "add 1 ", "add 1 2", "add 1 2 ",
            "o", "over ", "over 1", "over 1/", "over 1/2", "over 1/2 ", "over 1/2 3", "over 1/2 3 ",
            "f", "fr", "fre", "free", "free ", "fe", "fee", "feed", "feed ", "feed 0", "feed 0 ", "feed 0 1.",
            "t", "tr", "trade ", "trade 0", "trade 0-", "trade 0-1", "trade 0-1 ", "trade 0-1 1.",
            "to", "together", "together ", "s", "scale ", "scale 0", "scale 0 ", "m", "mode", "mode ", "mode 0", "mode 0 ",
            "free 0;", "free 0;f", "add 123456.1234 4 h;over 123456/123456 "};
        for (String prefix : prefixes) {
            errs(prefix, prefix.length());
            errs(prefix + "?", prefix.length());
            errs(prefix + "\u2003", prefix.length());
        }
        errs("free 0 ", 6);
        errs("free  0", 5);
        errs(" free 0", 0);
        errs(";free 0", 0);
        errs("free 0;;free 1", 7);
        errs("free 0; free 1", 7);
        errs("free 0,free 1", 6);
        errs("Free 0", 0);
        errs("fred 0", 3);
        errs("fxed 0", 1);
        errs("feed0 1", 4);
        errs("tragether 0", 3);
        errs("togader 0", 3);
        errs("free -1", 5);
        errs("free 1234567", 11);
        errs("add 1234567 0 d", 10);
        errs("add 1.12345 0 d", 10);
        errs("add .5 1 d", 4);
        errs("add 1.x", 6);
        errs("add 1. 1 d", 6);
        errs("add 1 12 d", 7);
        errs("add 1 1 x", 8);
        errs("add 1 1 D", 8);
        errs("add 1 1 dd", 9);
        errs("over 1.5/2 0 d", 6);
        errs("over 1-2 0 d", 6);
        errs("trade 0/1 1", 7);
        errs("trade 0-1.5 1", 9);
        errs("scale 0 10", 9);
        errs("scale 0 x", 8);
        errs("mode 0 1", 7);
        errs("together 00", 10);
        errs("together d", 9);
        errs("feed 0 1.5.5", 10);
        errs("free 9;free 9;free x", 19);
    }

    private static void promise38EmptiesTheBuffer() {
        DecimalMenagerie m = two();
        Checks.append(m, "mode 0 u");
        CHECKS.due("run", m.run(), 1);
        CHECKS.refused("run of nothing", IllegalArgumentException.class, m::run);
        CHECKS.due("errorPosition", m.errorPosition(), 0);
        CHECKS.due("append", m.append('m'), 1);
        leftOver("mode 0 u", "mode 0 ");
        leftOver("feed 0 1.5", "feed 0 1.");
        leftOver("feed 0 1.5", "feed 0 ");
        leftOver("feed 0 1.5", "feed 0");
        leftOver("feed 0 1.5", "fee");
        leftOver("free 0;mode 1 u", "free 0;");
        leftOver("trade 0-1 1", "trade 0");
        leftOver("over 1/7 0 d", "over 1");
        DecimalMenagerie twice = new DecimalMenagerie();
        Checks.append(twice, "add 1.25 4 d");
        twice.run();
        Checks.append(twice, "add 1 0 d");
        CHECKS.due("run", twice.run(), 1);
        CHECKS.due("no fraction is left over", twice.value(1), 10000L);
    }

    /** What an earlier program has left behind the end of the text must not count. */
    private static void leftOver(String earlier, String text) {
        DecimalMenagerie m = two();
        Checks.append(m, earlier);
        m.run();
        Checks.append(m, text);
        CHECKS.refused("run of " + text + " after " + earlier, IllegalArgumentException.class, m::run);
        CHECKS.due("error position of " + text + " after " + earlier, m.errorPosition(), text.length());
    }

    private static void promises39And40Stored() {
        DecimalMenagerie m = two();
        CHECKS.refused("errorPosition", NoSuchElementException.class, m::errorPosition);
        CHECKS.refused("failedCommand", NoSuchElementException.class, m::failedCommand);
        Checks.append(m, "free 0;free 0");
        CHECKS.refused("run", UnsupportedOperationException.class, m::run);
        CHECKS.refused("errorPosition", NoSuchElementException.class, m::errorPosition);
        CHECKS.due("failedCommand", m.failedCommand(), 1);
        m.save();
        Checks.append(m, "free x");
        CHECKS.refused("run", IllegalArgumentException.class, m::run);
        CHECKS.due("errorPosition", m.errorPosition(), 5);
        CHECKS.due("failedCommand stays", m.failedCommand(), 1);
        Checks.append(m, "free 0");
        CHECKS.due("run", m.run(), 1);
        m.undo();
        m.restore();
        CHECKS.due("errorPosition stays", m.errorPosition(), 5);
        CHECKS.due("failedCommand stays", m.failedCommand(), 1);
        Checks.append(m, "free 9");
        CHECKS.refused("run", UnsupportedOperationException.class, m::run);
        CHECKS.due("failedCommand is the last", m.failedCommand(), 0);
        CHECKS.due("errorPosition stays", m.errorPosition(), 5);
    }
}
