/** Promises 26 to 29: the queries about quotients. */
final class QuotientsTest {
    private static final Checks CHECKS = new Checks("QuotientsTest");
    private static final int MOST_CALLS = 512;

    private QuotientsTest() {
    }

    public static void main(String[] args) {
        promise26QuotientDigit();
        promises27To29PreperiodAndPeriod();
        bothPeriodsOfAllDivisors();
        refusals();
        CHECKS.end();
    }

    private static void digits(int dividend, int divisor, int from, String due) {
        DecimalMenagerie m = new DecimalMenagerie();
        for (int i = 0; i < due.length(); i++) {
            CHECKS.due("quotientDigit(" + dividend + ", " + divisor + ", " + (from + i) + ")",
                    m.quotientDigit(dividend, divisor, from + i), due.charAt(i) - '0');
        }
    }

    private static void promise26QuotientDigit() {
        digits(1, 7, 1, "142857142857");
        digits(22, 7, 1, "142857142857");
        digits(1, 6, 1, "16666");
        digits(5, 2, 1, "5000");
        digits(3, 1, 1, "000");
        digits(0, 999, 1, "000");
        digits(1, 999, 1, "001001001");
        digits(998, 999, 1, "998998");
        digits(1, 512, 1, "00195312500");
        digits(1, 3, 9990, "3333333333");
        digits(1, 7, 9995, "57142");
        digits(9999, 997, 1, "0290872");
    }

    private static void recurs(int dividend, int divisor, int preperiod, int period) {
        DecimalMenagerie m = new DecimalMenagerie();
        String quotient = "(" + dividend + ", " + divisor + ")";
        CHECKS.due("preperiod" + quotient, m.preperiod(dividend, divisor), preperiod);
        CHECKS.due("period" + quotient, m.period(dividend, divisor), period);
        CHECKS.due("periodByPowers" + quotient, m.periodByPowers(dividend, divisor), period);
    }

    private static void promises27To29PreperiodAndPeriod() {
        recurs(1, 6, 1, 1);
        recurs(1, 7, 0, 6);
        recurs(7, 7, 0, 1);
        recurs(14, 35, 1, 1);
        recurs(1, 35, 1, 6);
        recurs(3, 12, 2, 1);
        recurs(1, 12, 2, 1);
        recurs(0, 7, 0, 1);
        recurs(0, 1, 0, 1);
        recurs(5, 2, 1, 1);
        recurs(9999, 1, 0, 1);
        recurs(1, 512, 9, 1);
        recurs(1, 625, 4, 1);
        recurs(1, 768, 8, 1);
        recurs(1, 896, 7, 6);
        recurs(1, 983, 0, 982);
        recurs(9999, 997, 0, 166);
        recurs(1, 999, 0, 3);
        recurs(998, 999, 0, 3);
        recurs(333, 999, 0, 1);
        recurs(27, 999, 0, 3);
        recurs(37, 999, 0, 3);
        recurs(1, 998, 1, 498);
    }

    private static void bothPeriodsOfAllDivisors() {
        DecimalMenagerie m = new DecimalMenagerie();
        int calls = 0;
        for (int divisor = 1; divisor <= 999; divisor++) {
            if (calls + 2 > MOST_CALLS) {
                m = new DecimalMenagerie();
                calls = 0;
            }
            int dividend = divisor * 7 % 10000 / 3;
            CHECKS.due("periods of " + dividend + "/" + divisor, m.period(dividend, divisor), m.periodByPowers(dividend, divisor));
            calls += 2;
        }
    }

    private static void refusals() {
        DecimalMenagerie m = new DecimalMenagerie();
        int[][] bad = {{-1, 1}, {10000, 1}, {1, 0}, {1, -1}, {1, 1000}, {-1, 0},
            {Integer.MIN_VALUE, 7}, {Integer.MAX_VALUE, 7}, {7, Integer.MIN_VALUE}, {7, Integer.MAX_VALUE}};
        for (int[] a : bad) {
            String quotient = "(" + a[0] + ", " + a[1] + ")";
            CHECKS.refused("quotientDigit" + quotient, IllegalArgumentException.class, () -> m.quotientDigit(a[0], a[1], 1));
            CHECKS.refused("quotient before position", IllegalArgumentException.class, () -> m.quotientDigit(a[0], a[1], 0));
            CHECKS.refused("preperiod" + quotient, IllegalArgumentException.class, () -> m.preperiod(a[0], a[1]));
            CHECKS.refused("period" + quotient, IllegalArgumentException.class, () -> m.period(a[0], a[1]));
            CHECKS.refused("periodByPowers" + quotient, IllegalArgumentException.class, () -> m.periodByPowers(a[0], a[1]));
        }
        for (int position : new int[] {0, -1, 10000, Integer.MIN_VALUE, Integer.MAX_VALUE}) {
            CHECKS.refused("position " + position, IndexOutOfBoundsException.class, () -> m.quotientDigit(1, 3, position));
        }
    }
}
