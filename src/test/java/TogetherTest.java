import java.util.NoSuchElementException;

/** Promises 23 to 25: the queries about rounding together. */
final class TogetherTest {
    private static final Checks CHECKS = new Checks("TogetherTest");

    private TogetherTest() {
    }

    public static void main(String[] args) {
        noNumbers();
        oneUpOfThree();
        equals();
        targetFarFromTheNearest();
        coarseNumbersStay();
        refusals();
        CHECKS.end();
    }

    private static void errors(DecimalMenagerie m, int scale, long due) {
        CHECKS.due("togetherError(" + scale + ")", m.togetherError(scale), due);
        CHECKS.due("togetherErrorBySets(" + scale + ")", m.togetherErrorBySets(scale), due);
    }

    private static void up(DecimalMenagerie m, int scale, boolean... due) {
        for (int position = 0; position < due.length; position++) {
            int id = m.numberAt(position);
            CHECKS.due("goesUp(" + id + ", " + scale + ")", m.goesUp(id, scale), due[position]);
        }
    }

    private static void noNumbers() {
        DecimalMenagerie m = new DecimalMenagerie();
        for (int scale = 0; scale <= 4; scale++) {
            errors(m, scale, 0);
        }
    }

    private static void oneUpOfThree() {
        DecimalMenagerie m = new DecimalMenagerie();
        m.addNumber(1, 3000, 4, 'd');
        m.addNumber(2, 4000, 4, 'd');
        m.addNumber(3, 2000, 4, 'd');
        String before = Checks.look(m);
        // The sum 6.9 becomes 7, so one goes up; 0.4 is nearest to going up.
        errors(m, 0, 3000 + 6000 + 2000);
        up(m, 0, false, true, false);
        errors(m, 1, 0);
        up(m, 1, false, false, false);
        CHECKS.due("all", Checks.look(m), before);
    }

    private static void equals() {
        DecimalMenagerie m = new DecimalMenagerie();
        for (int id = 0; id < 6; id++) {
            m.addNumber(id, 5000, 4, 'd');
        }
        errors(m, 0, 30000);
        up(m, 0, true, true, true, false, false, false);
        m.remove(0);
        m.remove(2);
        // The sum of the rests is 2, so two go up.
        up(m, 0, true, true, false, false);
        m.remove(3);
        // The sum of the rests is 1.5, which h makes 2.
        errors(m, 0, 15000);
        up(m, 0, true, true, false);
    }

    private static void targetFarFromTheNearest() {
        DecimalMenagerie m = new DecimalMenagerie();
        for (int id = 0; id < 6; id++) {
            m.addNumber(0, 9000, 4, 'd');
        }
        // The sum is 5.4, so one of the six has to stay down although all are near to going up.
        errors(m, 0, 5 * 1000 + 9000);
        up(m, 0, true, true, true, true, true, false);
        for (int id = 0; id < 6; id++) {
            m.setMode(id, 'u');
        }
        up(m, 0, true, true, true, true, true, false);
    }

    private static void coarseNumbersStay() {
        DecimalMenagerie m = new DecimalMenagerie();
        m.addNumber(5, 0, 0, 'u');
        m.addNumber(5, 60, 3, 'u');
        m.addNumber(5, 9, 4, 'u');
        up(m, 0, false, false, false);
        errors(m, 0, 69);
        up(m, 2, false, true, false);
        errors(m, 2, 40 + 9);
        up(m, 3, false, false, true);
        errors(m, 3, 1);
        up(m, 4, false, false, false);
        errors(m, 4, 0);
    }

    private static void refusals() {
        DecimalMenagerie m = new DecimalMenagerie();
        m.addNumber(1, 3000, 4, 'd');
        for (int bad : new int[] {-1, 5, Integer.MIN_VALUE, Integer.MAX_VALUE}) {
            CHECKS.refused("togetherError(" + bad + ")", IllegalArgumentException.class, () -> m.togetherError(bad));
            CHECKS.refused("togetherErrorBySets(" + bad + ")", IllegalArgumentException.class, () -> m.togetherErrorBySets(bad));
            CHECKS.refused("goesUp(0, " + bad + ")", IllegalArgumentException.class, () -> m.goesUp(0, bad));
            CHECKS.refused("goesUp(1, " + bad + ")", NoSuchElementException.class, () -> m.goesUp(1, bad));
        }
        CHECKS.refused("goesUp(1, 0)", NoSuchElementException.class, () -> m.goesUp(1, 0));
    }
}
