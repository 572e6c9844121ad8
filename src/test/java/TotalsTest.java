import java.util.NoSuchElementException;

/** Promises 30 to 36: the totals. */
final class TotalsTest {
    private static final Checks CHECKS = new Checks("TotalsTest");

    private TotalsTest() {
    }

    public static void main(String[] args) {
        promises30And31Total();
        promise32Escapes();
        promise33Crumbs();
        promise34MeanValue();
        promise35Share();
        promise36IsConsistent();
        CHECKS.end();
    }

    private static void total(DecimalMenagerie m, long due) {
        CHECKS.due("total", m.total(), due);
        CHECKS.due("totalByAccounts", m.totalByAccounts(), due);
    }

    private static void promises30And31Total() {
        DecimalMenagerie m = new DecimalMenagerie();
        total(m, 0);
        m.addNumber(12, 3400, 2, 'h');
        total(m, 123400);
        m.addQuotient(1, 3, 4, 'u');
        total(m, 126734);
        m.feed(0, 1, 66);
        total(m, 136834);
        m.trade(1, 0, 0, 3333);
        total(m, 136801);
        m.setScale(0, 0);
        total(m, 140001);
        m.addNumber(999999, 9999, 4, 'u');
        total(m, 10000140000L);
        m.setScale(2, 1);
        total(m, 140001);
        m.remove(0);
        total(m, 1);
        m.roundTogether(0);
        total(m, 0);
        m.undo();
        total(m, 1);
        Checks.append(m, "feed 1 2.5;feed 2 0.25;free 1;add 4 0 d");
        m.run();
        total(m, 43000);
    }

    private static void promise32Escapes() {
        DecimalMenagerie m = new DecimalMenagerie();
        m.addNumber(999999, 0, 0, 'd');
        m.addNumber(999999, 0, 0, 'd');
        CHECKS.due("escapes", m.escapes(), 0);
        m.feed(0, 1, 0);
        CHECKS.due("escapes by feed", m.escapes(), 1);
        m.trade(1, 0, 999999, 0);
        CHECKS.due("no escape by trade", m.escapes(), 1);
        m.feed(1, 1, 0);
        m.trade(1, 0, 1, 0);
        CHECKS.due("escapes by trade", m.escapes(), 2);
        m.rounded(0, 0, 'u');
        m.remove(0);
        CHECKS.due("escapes after removal", m.escapes(), 2);
        m.undo();
        m.undo();
        CHECKS.due("escapes after undo", m.escapes(), 1);
    }

    private static void promise33Crumbs() {
        DecimalMenagerie m = new DecimalMenagerie();
        m.addNumber(1, 0, 0, 'd');
        CHECKS.due("crumbs", m.crumbs(), 0L);
        m.feed(0, 0, 9999);
        CHECKS.due("crumbs can be negative", m.crumbs(), -9999L);
        m.setMode(0, 'u');
        m.feed(0, 0, 1);
        CHECKS.due("crumbs add up", m.crumbs(), 0L);
        m.feed(0, 0, 1);
        CHECKS.due("crumbs can be positive", m.crumbs(), 9999L);
        m.remove(0);
        CHECKS.due("crumbs stay", m.crumbs(), 9999L);
        m.addQuotient(1, 3, 0, 'u');
        CHECKS.due("crumbs after a quotient", m.crumbs(), 9999L);
        m.trade(1, m.addNumber(0, 0, 0, 'd'), 1, 0);
        CHECKS.due("crumbs after an exact trade", m.crumbs(), 9999L);
    }

    private static void promise34MeanValue() {
        DecimalMenagerie m = new DecimalMenagerie();
        CHECKS.refused("meanValue of none", ArithmeticException.class, m::meanValue);
        m.addNumber(1, 0, 0, 'd');
        CHECKS.due("meanValue", m.meanValue(), 1.0);
        m.addNumber(0, 0, 0, 'd');
        CHECKS.due("meanValue", m.meanValue(), 0.5);
        m.addNumber(0, 1, 4, 'd');
        CHECKS.due("meanValue", m.meanValue(), 10001.0 / 3.0 / 10000.0);
        m.addNumber(999999, 9999, 4, 'd');
        CHECKS.due("meanValue", m.meanValue(), 10000010000.0 / 4.0 / 10000.0);
        m.remove(0);
        m.remove(1);
        m.remove(2);
        m.remove(3);
        CHECKS.refused("meanValue of none left", ArithmeticException.class, m::meanValue);
        m.addNumber(0, 0, 0, 'd');
        CHECKS.due("meanValue of a zero", m.meanValue(), 0.0);
    }

    private static void promise35Share() {
        DecimalMenagerie m = new DecimalMenagerie();
        CHECKS.refused("share of none", NoSuchElementException.class, () -> m.share(0));
        m.addNumber(0, 0, 0, 'd');
        CHECKS.refused("share of nothing", ArithmeticException.class, () -> m.share(0));
        CHECKS.refused("number first", NoSuchElementException.class, () -> m.share(1));
        m.addNumber(1, 0, 0, 'd');
        m.addNumber(2, 0, 0, 'd');
        CHECKS.due("share", m.share(0), 0.0f);
        CHECKS.due("share", m.share(1), 10000.0f / 30000.0f);
        CHECKS.due("share", m.share(2), 20000.0f / 30000.0f);
        m.addNumber(999999, 9999, 4, 'd');
        // As floats both are 1.0E10, although the value is less than the sum.
        CHECKS.due("share", m.share(3), 9999999999.0f / 10000029999.0f);
        CHECKS.refused("share(4)", NoSuchElementException.class, () -> m.share(4));
    }

    private static void promise36IsConsistent() {
        DecimalMenagerie m = new DecimalMenagerie();
        CHECKS.due("isConsistent", m.isConsistent(), true);
        for (int id = 0; id < 6; id++) {
            m.addQuotient(9999, 7 + id, id % 5, "duhle".charAt(id % 5));
            CHECKS.due("isConsistent", m.isConsistent(), true);
        }
        for (int round = 0; round < 40; round++) {
            m.feed(round % 6, 99999 * (round % 11), 251 * round % 10000);
            if (round % 7 == 0) {
                m.roundTogether(round % 5);
            }
            CHECKS.due("isConsistent", m.isConsistent(), true);
        }
    }
}
