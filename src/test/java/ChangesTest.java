import java.util.NoSuchElementException;

/** Promises 1 to 9: a new object, and the changes. */
final class ChangesTest {
    private static final Checks CHECKS = new Checks("ChangesTest");
    private static final int[] BAD_WHOLES = {-1, 1000000, Integer.MIN_VALUE, Integer.MAX_VALUE};
    private static final int[] BAD_FRACTIONS = {-1, 10000, Integer.MIN_VALUE, Integer.MAX_VALUE};
    private static final int[] BAD_SCALES = {-1, 5, Integer.MIN_VALUE, Integer.MAX_VALUE};
    private static final char[] BAD_MODES = {'D', 'x', 'c', 'f', 'g', 'i', 't', 'v', 'm', 'k', 0, 256 + 'd', 65535};

    private ChangesTest() {
    }

    public static void main(String[] args) {
        promise1NewObject();
        promise2AddNumber();
        promise2AddNumberRefuses();
        promise3AddQuotient();
        promise3AddQuotientRefuses();
        promise4Remove();
        promise5Feed();
        promise5FeedRefuses();
        promise6Trade();
        promise6TradeRefuses();
        promise7SetScale();
        promise8SetMode();
        promise9RoundTogether();
        promise9BestChoiceAmongEquals();
        promise9Scales();
        promise9Escapes();
        CHECKS.end();
    }

    private static void promise1NewObject() {
        DecimalMenagerie m = new DecimalMenagerie();
        CHECKS.due("count", m.count(), 0);
        CHECKS.due("total", m.total(), 0L);
        CHECKS.due("crumbs", m.crumbs(), 0L);
        CHECKS.due("escapes", m.escapes(), 0);
        CHECKS.refused("value(0)", NoSuchElementException.class, () -> m.value(0));
        CHECKS.due("first id", m.addNumber(1, 0, 0, 'd'), 0);
        CHECKS.due("count of another object", new DecimalMenagerie().count(), 0);
    }

    private static void promise2AddNumber() {
        DecimalMenagerie m = new DecimalMenagerie();
        CHECKS.due("addNumber", m.addNumber(0, 0, 0, 'd'), 0);
        CHECKS.due("addNumber", m.addNumber(999999, 9999, 4, 'u'), 1);
        CHECKS.due("addNumber", m.addNumber(12, 5000, 1, 'h'), 2);
        CHECKS.due("addNumber", m.addNumber(3, 4500, 2, 'l'), 3);
        CHECKS.due("addNumber", m.addNumber(3, 4560, 3, 'e'), 4);
        CHECKS.due("all", Checks.look(m), "0=0/0d 1=9999999999/4u 2=125000/1h 3=34500/2l 4=34560/3e "
                + "crumbs 0 escapes 0 accounts 10000194059");
        m.remove(4);
        CHECKS.due("an id is not used again", m.addNumber(1, 0, 4, 'd'), 5);
        CHECKS.due("sixth number", m.addNumber(1, 0, 4, 'd'), 6);
        CHECKS.refusedUnchanged("seventh number", IllegalStateException.class, m, () -> m.addNumber(1, 0, 4, 'd'));
        CHECKS.refusedUnchanged("argument before room", IllegalArgumentException.class, m, () -> m.addNumber(1, 0, 5, 'd'));
        CHECKS.refusedUnchanged("room before step", IllegalStateException.class, m, () -> m.addNumber(1, 1, 0, 'd'));
        m.remove(0);
        CHECKS.due("id after refusals", m.addNumber(1, 0, 4, 'd'), 7);
    }

    private static void promise2AddNumberRefuses() {
        DecimalMenagerie m = new DecimalMenagerie();
        for (int bad : BAD_WHOLES) {
            CHECKS.refusedUnchanged("whole " + bad, IllegalArgumentException.class, m, () -> m.addNumber(bad, 0, 4, 'd'));
        }
        for (int bad : BAD_FRACTIONS) {
            CHECKS.refusedUnchanged("fraction " + bad, IllegalArgumentException.class, m, () -> m.addNumber(0, bad, 4, 'd'));
        }
        for (int bad : BAD_SCALES) {
            CHECKS.refusedUnchanged("scale " + bad, IllegalArgumentException.class, m, () -> m.addNumber(0, 0, bad, 'd'));
        }
        for (char bad : BAD_MODES) {
            CHECKS.refusedUnchanged("mode " + (int) bad, IllegalArgumentException.class, m, () -> m.addNumber(0, 0, 4, bad));
        }
        int[] offSteps = {5000, 5500, 5550, 5555};
        for (int scale = 0; scale < 4; scale++) {
            int atScale = scale;
            CHECKS.refusedUnchanged("step of scale " + scale, UnsupportedOperationException.class, m,
                    () -> m.addNumber(7, offSteps[atScale], atScale, 'u'));
        }
        CHECKS.refused("argument before step", IllegalArgumentException.class, () -> m.addNumber(7, 5000, 0, 'x'));
        CHECKS.due("id after refusals", m.addNumber(7, 5000, 1, 'u'), 0);
    }

    private static long quotient(int dividend, int divisor, int scale, char mode) {
        DecimalMenagerie m = new DecimalMenagerie();
        CHECKS.due("id of a quotient", m.addQuotient(dividend, divisor, scale, mode), 0);
        CHECKS.due("crumbs after a quotient", m.crumbs(), 0L);
        CHECKS.due("accounts after a quotient", m.totalByAccounts(), m.value(0));
        CHECKS.due("scale of a quotient", m.scale(0), scale);
        CHECKS.due("mode of a quotient", m.mode(0), mode);
        return m.value(0);
    }

    private static void promise3AddQuotient() {
        char[] modes = {'d', 'u', 'h', 'l', 'e'};
        long[] oneSixth = {1666, 1667, 1667, 1667, 1667};
        long[] oneThird = {3333, 3334, 3333, 3333, 3333};
        long[] fiveHalves = {20000, 30000, 30000, 20000, 20000};
        long[] sevenHalves = {30000, 40000, 40000, 30000, 40000};
        long[] threeEighths = {3700, 3800, 3800, 3700, 3800};
        long[] oneEighth = {1200, 1300, 1300, 1200, 1200};
        for (int i = 0; i < modes.length; i++) {
            CHECKS.due("1/6 to 4 with " + modes[i], quotient(1, 6, 4, modes[i]), oneSixth[i]);
            CHECKS.due("1/3 to 4 with " + modes[i], quotient(1, 3, 4, modes[i]), oneThird[i]);
            CHECKS.due("5/2 to 0 with " + modes[i], quotient(5, 2, 0, modes[i]), fiveHalves[i]);
            CHECKS.due("7/2 to 0 with " + modes[i], quotient(7, 2, 0, modes[i]), sevenHalves[i]);
            CHECKS.due("3/8 to 2 with " + modes[i], quotient(3, 8, 2, modes[i]), threeEighths[i]);
            CHECKS.due("1/8 to 2 with " + modes[i], quotient(1, 8, 2, modes[i]), oneEighth[i]);
            CHECKS.due("6/3 to 0 with " + modes[i], quotient(6, 3, 0, modes[i]), 20000L);
            CHECKS.due("0/7 to 3 with " + modes[i], quotient(0, 7, 3, modes[i]), 0L);
        }
        // Cut or rounded to four digits first, these would be halves of a step.
        CHECKS.due("5/999 to 2", quotient(5, 999, 2, 'l'), 100L);
        CHECKS.due("5/999 to 2", quotient(5, 999, 2, 'e'), 100L);
        CHECKS.due("4/801 to 2", quotient(4, 801, 2, 'h'), 0L);
        CHECKS.due("1/999 up to 0", quotient(1, 999, 0, 'u'), 10000L);
        CHECKS.due("500/999 to 0", quotient(500, 999, 0, 'l'), 10000L);
        CHECKS.due("499/999 to 0", quotient(499, 999, 0, 'h'), 0L);
        CHECKS.due("9999/1", quotient(9999, 1, 4, 'd'), 99990000L);
        CHECKS.due("9999/7", quotient(9999, 7, 4, 'u'), 14284286L);
        CHECKS.due("1/625 to 3", quotient(1, 625, 3, 'e'), 20L);
        CHECKS.due("1/32 to 4", quotient(1, 32, 4, 'e'), 312L);
        CHECKS.due("3/32 to 4", quotient(3, 32, 4, 'e'), 938L);
    }

    private static void promise3AddQuotientRefuses() {
        DecimalMenagerie m = new DecimalMenagerie();
        for (int bad : new int[] {-1, 10000, Integer.MIN_VALUE, Integer.MAX_VALUE}) {
            CHECKS.refusedUnchanged("dividend " + bad, IllegalArgumentException.class, m, () -> m.addQuotient(bad, 1, 0, 'd'));
        }
        for (int bad : new int[] {0, -1, 1000, Integer.MIN_VALUE, Integer.MAX_VALUE}) {
            CHECKS.refusedUnchanged("divisor " + bad, IllegalArgumentException.class, m, () -> m.addQuotient(1, bad, 0, 'd'));
        }
        for (int bad : BAD_SCALES) {
            CHECKS.refusedUnchanged("scale " + bad, IllegalArgumentException.class, m, () -> m.addQuotient(1, 1, bad, 'd'));
        }
        for (char bad : BAD_MODES) {
            CHECKS.refusedUnchanged("mode " + (int) bad, IllegalArgumentException.class, m, () -> m.addQuotient(1, 1, 0, bad));
        }
        for (int id = 0; id < 6; id++) {
            CHECKS.due("id", m.addQuotient(id, 999, 4, 'd'), id);
        }
        CHECKS.refusedUnchanged("seventh number", IllegalStateException.class, m, () -> m.addQuotient(1, 1, 0, 'd'));
        CHECKS.refusedUnchanged("argument before room", IllegalArgumentException.class, m, () -> m.addQuotient(1, 0, 0, 'd'));
    }

    private static DecimalMenagerie three() {
        DecimalMenagerie m = new DecimalMenagerie();
        m.addNumber(12, 3400, 2, 'h');
        m.addNumber(7, 5000, 1, 'd');
        m.addNumber(100, 0, 0, 'u');
        return m;
    }

    private static void promise4Remove() {
        DecimalMenagerie m = three();
        CHECKS.due("remove(1)", m.remove(1), 75000L);
        CHECKS.due("all", Checks.look(m), "0=123400/2h 2=1000000/0u crumbs 0 escapes 0 accounts 1123400");
        CHECKS.refusedUnchanged("remove(1) again", NoSuchElementException.class, m, () -> m.remove(1));
        CHECKS.refusedUnchanged("remove(-1)", NoSuchElementException.class, m, () -> m.remove(-1));
        CHECKS.refusedUnchanged("remove(3)", NoSuchElementException.class, m, () -> m.remove(3));
        CHECKS.due("remove(2)", m.remove(2), 1000000L);
        CHECKS.due("remove(0)", m.remove(0), 123400L);
        CHECKS.due("all", Checks.look(m), "crumbs 0 escapes 0 accounts 0");
    }

    private static void promise5Feed() {
        DecimalMenagerie m = three();
        CHECKS.due("12.34 + 0.005 with h", m.feed(0, 0, 50), 123500L);
        CHECKS.due("crumbs", m.crumbs(), 50L);
        CHECKS.due("12.35 + 0.0049 with h", m.feed(0, 0, 49), 123500L);
        CHECKS.due("crumbs", m.crumbs(), 1L);
        CHECKS.due("7.5 + 1.0999 with d", m.feed(1, 1, 999), 85000L);
        CHECKS.due("crumbs", m.crumbs(), -998L);
        CHECKS.due("100 + 0.0001 with u", m.feed(2, 0, 1), 1010000L);
        CHECKS.due("crumbs", m.crumbs(), 9001L);
        CHECKS.due("feed with nothing", m.feed(2, 0, 0), 1010000L);
        CHECKS.due("all", Checks.look(m), "0=123500/2h 1=85000/1d 2=1010000/0u crumbs 9001 escapes 0 accounts 1218500");

        DecimalMenagerie e = new DecimalMenagerie();
        e.addNumber(0, 0, 0, 'e');
        CHECKS.due("0 + 0.5 with e", e.feed(0, 0, 5000), 0L);
        CHECKS.due("0 + 1.5 with e", e.feed(0, 1, 5000), 20000L);
        CHECKS.due("2 + 0.5 with e", e.feed(0, 0, 5000), 20000L);
        CHECKS.due("2 + 0.5001 with e", e.feed(0, 0, 5001), 30000L);
        CHECKS.due("3 + 0.5 with e", e.feed(0, 0, 5000), 40000L);
        e.setMode(0, 'l');
        CHECKS.due("4 + 0.5 with l", e.feed(0, 0, 5000), 40000L);
        CHECKS.due("4 + 0.5001 with l", e.feed(0, 0, 5001), 50000L);

        DecimalMenagerie full = new DecimalMenagerie();
        full.addNumber(999999, 9999, 4, 'd');
        full.addNumber(999999, 0, 0, 'h');
        CHECKS.due("the last unit to the limit", full.feed(0, 0, 1), 0L);
        CHECKS.due("escapes", full.escapes(), 1);
        CHECKS.due("rounded down below the limit", full.feed(1, 0, 4999), 9999990000L);
        CHECKS.due("escapes", full.escapes(), 1);
        CHECKS.due("rounded up to the limit", full.feed(1, 0, 5000), 0L);
        CHECKS.due("escapes", full.escapes(), 2);
        CHECKS.due("crumbs count before the escape", full.crumbs(), 1L);
        full.feed(0, 999999, 9999);
        CHECKS.due("twice the greatest amount", full.feed(0, 999999, 9999), 9999999998L);
        CHECKS.due("escapes", full.escapes(), 3);
    }

    private static void promise5FeedRefuses() {
        DecimalMenagerie m = three();
        CHECKS.refusedUnchanged("feed(3)", NoSuchElementException.class, m, () -> m.feed(3, 0, 0));
        CHECKS.refusedUnchanged("number before amount", NoSuchElementException.class, m, () -> m.feed(3, -1, -1));
        for (int bad : BAD_WHOLES) {
            CHECKS.refusedUnchanged("whole " + bad, IllegalArgumentException.class, m, () -> m.feed(0, bad, 0));
        }
        for (int bad : BAD_FRACTIONS) {
            CHECKS.refusedUnchanged("fraction " + bad, IllegalArgumentException.class, m, () -> m.feed(0, 0, bad));
        }
    }

    private static void promise6Trade() {
        DecimalMenagerie m = three();
        CHECKS.due("trade 0.36 from 0 to 1", m.trade(0, 1, 0, 3600), 78000L);
        CHECKS.due("all", Checks.look(m), "0=119800/2h 1=78000/1d 2=1000000/0u crumbs -600 escapes 0 accounts 1197800");
        CHECKS.due("trade the whole value", m.trade(1, 2, 7, 8000), 1080000L);
        CHECKS.due("all", Checks.look(m), "0=119800/2h 1=0/1d 2=1080000/0u crumbs 1400 escapes 0 accounts 1199800");
        CHECKS.due("trade nothing", m.trade(1, 0, 0, 0), 119800L);
        m.addNumber(999999, 9999, 4, 'd');
        CHECKS.due("trade over the limit", m.trade(3, 2, 999999, 9999), 1080000L);
        CHECKS.due("all", Checks.look(m), "0=119800/2h 1=0/1d 2=1080000/0u 3=0/4d crumbs 1401 escapes 1 accounts 1199800");
    }

    private static void promise6TradeRefuses() {
        DecimalMenagerie m = three();
        CHECKS.refusedUnchanged("no from", NoSuchElementException.class, m, () -> m.trade(3, 0, 1, 0));
        CHECKS.refusedUnchanged("no to", NoSuchElementException.class, m, () -> m.trade(0, 3, 1, 0));
        CHECKS.refusedUnchanged("the same, but none", NoSuchElementException.class, m, () -> m.trade(3, 3, 1, 0));
        CHECKS.refusedUnchanged("no to before amount", NoSuchElementException.class, m, () -> m.trade(0, 3, -1, 0));
        CHECKS.refusedUnchanged("the same", IllegalArgumentException.class, m, () -> m.trade(0, 0, 1, 0));
        CHECKS.refusedUnchanged("the same before the value", IllegalArgumentException.class, m, () -> m.trade(0, 0, 900, 1));
        promise6TradeRefusesAmounts(three());
        CHECKS.refusedUnchanged("too much", IllegalStateException.class, m, () -> m.trade(0, 1, 12, 3500));
        CHECKS.refusedUnchanged("value before step", IllegalStateException.class, m, () -> m.trade(0, 1, 12, 3401));
        CHECKS.refusedUnchanged("step", UnsupportedOperationException.class, m, () -> m.trade(0, 1, 0, 10));
    }

    private static void promise6TradeRefusesAmounts(DecimalMenagerie m) {
        for (int bad : BAD_WHOLES) {
            CHECKS.refusedUnchanged("whole " + bad, IllegalArgumentException.class, m, () -> m.trade(0, 1, bad, 0));
        }
        for (int bad : BAD_FRACTIONS) {
            CHECKS.refusedUnchanged("fraction " + bad, IllegalArgumentException.class, m, () -> m.trade(0, 1, 0, bad));
        }
    }

    private static void promise7SetScale() {
        DecimalMenagerie m = new DecimalMenagerie();
        m.addNumber(1, 2345, 4, 'h');
        m.addNumber(999999, 9500, 4, 'u');
        CHECKS.due("setScale(0, 3)", m.setScale(0, 3), 4);
        CHECKS.due("value", m.value(0), 12350L);
        CHECKS.due("crumbs", m.crumbs(), 5L);
        CHECKS.due("setScale(0, 4)", m.setScale(0, 4), 3);
        CHECKS.due("value", m.value(0), 12350L);
        CHECKS.due("setScale(0, 4) again", m.setScale(0, 4), 4);
        m.setMode(0, 'd');
        CHECKS.due("setScale(0, 0)", m.setScale(0, 0), 4);
        CHECKS.due("value", m.value(0), 10000L);
        CHECKS.due("crumbs", m.crumbs(), -2345L);
        CHECKS.due("setScale(1, 1)", m.setScale(1, 1), 4);
        CHECKS.due("value escapes", m.value(1), 0L);
        CHECKS.due("all", Checks.look(m), "0=10000/0d 1=0/1u crumbs -1845 escapes 1 accounts 10000");
        CHECKS.refusedUnchanged("setScale(2, 0)", NoSuchElementException.class, m, () -> m.setScale(2, 0));
        CHECKS.refusedUnchanged("number before scale", NoSuchElementException.class, m, () -> m.setScale(2, 5));
        for (int bad : BAD_SCALES) {
            CHECKS.refusedUnchanged("scale " + bad, IllegalArgumentException.class, m, () -> m.setScale(0, bad));
        }
    }

    private static void promise8SetMode() {
        DecimalMenagerie m = three();
        CHECKS.due("setMode", m.setMode(0, 'd'), 'h');
        CHECKS.due("setMode", m.setMode(0, 'u'), 'd');
        CHECKS.due("setMode", m.setMode(0, 'l'), 'u');
        CHECKS.due("setMode", m.setMode(0, 'e'), 'l');
        CHECKS.due("setMode to the same", m.setMode(0, 'e'), 'e');
        CHECKS.due("all", Checks.look(m), "0=123400/2e 1=75000/1d 2=1000000/0u crumbs 0 escapes 0 accounts 1198400");
        CHECKS.refusedUnchanged("setMode(3)", NoSuchElementException.class, m, () -> m.setMode(3, 'd'));
        CHECKS.refusedUnchanged("number before mode", NoSuchElementException.class, m, () -> m.setMode(3, 'x'));
        DecimalMenagerie other = three();
        for (char bad : BAD_MODES) {
            CHECKS.refusedUnchanged("mode " + (int) bad, IllegalArgumentException.class, other, () -> other.setMode(0, bad));
        }
    }

    private static void promise9RoundTogether() {
        DecimalMenagerie m = new DecimalMenagerie();
        CHECKS.due("nothing to round", m.roundTogether(0), 0);
        m.addNumber(1, 4000, 1, 'u');
        m.addNumber(2, 4000, 1, 'u');
        m.addNumber(3, 3000, 1, 'u');
        m.addNumber(4, 0, 0, 'u');
        // The sum is 11.1, so one unit is to go up: that of the greatest rest with the lowest id.
        CHECKS.due("numbers that go up", m.roundTogether(0), 1);
        CHECKS.due("all", Checks.look(m), "0=20000/0u 1=20000/0u 2=30000/0u 3=40000/0u "
                + "crumbs -1000 escapes 0 accounts 110000");
        for (int bad : BAD_SCALES) {
            CHECKS.refusedUnchanged("scale " + bad, IllegalArgumentException.class, m, () -> m.roundTogether(bad));
        }
        DecimalMenagerie half = new DecimalMenagerie();
        half.addNumber(0, 2500, 2, 'd');
        half.addNumber(0, 2500, 2, 'd');
        // The target is rounded with h, whatever the modes are: 0.5 becomes 1.
        CHECKS.due("numbers that go up", half.roundTogether(0), 1);
        CHECKS.due("all", Checks.look(half), "0=10000/0d 1=0/0d crumbs 5000 escapes 0 accounts 10000");
    }

    private static void promise9BestChoiceAmongEquals() {
        DecimalMenagerie m = new DecimalMenagerie();
        m.addNumber(0, 1000, 4, 'd');
        m.addNumber(5, 5000, 4, 'd');
        m.addNumber(9, 5000, 4, 'd');
        m.addNumber(0, 5000, 4, 'd');
        m.addNumber(0, 9000, 4, 'd');
        // The rests are 2.5, so three go up: 0.9 and the two halves with the lowest ids.
        CHECKS.due("numbers that go up", m.roundTogether(0), 3);
        CHECKS.due("all", Checks.look(m), "0=0/0d 1=60000/0d 2=100000/0d 3=0/0d 4=10000/0d "
                + "crumbs 5000 escapes 0 accounts 170000");
    }

    private static void promise9Scales() {
        DecimalMenagerie m = new DecimalMenagerie();
        m.addNumber(1, 2345, 4, 'd');
        m.addNumber(1, 2300, 2, 'd');
        m.addNumber(1, 2000, 1, 'd');
        m.addNumber(1, 0, 0, 'd');
        CHECKS.due("to the finest scale", m.roundTogether(4), 0);
        CHECKS.due("all", Checks.look(m), "0=12345/4d 1=12300/2d 2=12000/1d 3=10000/0d "
                + "crumbs 0 escapes 0 accounts 46645");
        CHECKS.due("to the scale 2", m.roundTogether(2), 0);
        CHECKS.due("all", Checks.look(m), "0=12300/2d 1=12300/2d 2=12000/1d 3=10000/0d "
                + "crumbs -45 escapes 0 accounts 46600");
        CHECKS.due("to the scale 1", m.roundTogether(1), 1);
        CHECKS.due("all", Checks.look(m), "0=13000/1d 1=12000/1d 2=12000/1d 3=10000/0d "
                + "crumbs 355 escapes 0 accounts 47000");
    }

    private static void promise9Escapes() {
        DecimalMenagerie m = new DecimalMenagerie();
        m.addNumber(999999, 9000, 1, 'd');
        m.addNumber(999999, 9000, 1, 'd');
        m.addNumber(0, 1000, 1, 'd');
        // The target counts before carries escape.
        CHECKS.due("numbers that go up", m.roundTogether(0), 2);
        CHECKS.due("all", Checks.look(m), "0=0/0d 1=0/0d 2=0/0d crumbs 1000 escapes 2 accounts 0");
    }
}
