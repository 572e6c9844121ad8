import java.util.NoSuchElementException;

/** Promises 20 to 22: the queries about carries. */
final class CarriesTest {
    private static final Checks CHECKS = new Checks("CarriesTest");

    private CarriesTest() {
    }

    public static void main(String[] args) {
        DecimalMenagerie m = new DecimalMenagerie();
        m.addNumber(12, 3400, 2, 'h');
        m.addNumber(999999, 9999, 4, 'd');
        m.addNumber(0, 0, 0, 'd');
        m.addNumber(550550, 5055, 4, 'd');
        String before = Checks.look(m);
        carries(m, 0, 87, 6600, 4, 4);
        carries(m, 0, 0, 0, 0, 0);
        carries(m, 0, 8, 0, 1, 1);
        carries(m, 0, 87, 6599, 0, 0);
        carries(m, 1, 0, 1, 10, 10);
        carries(m, 1, 0, 0, 0, 0);
        carries(m, 1, 999999, 9999, 10, 10);
        // A carry out of the place 5 counts, too.
        carries(m, 1, 100000, 0, 1, 1);
        carries(m, 1, 10, 0, 5, 5);
        carries(m, 2, 999999, 9999, 0, 0);
        carries(m, 3, 550550, 5055, 7, 2);
        carries(m, 3, 50500, 5055, 5, 2);
        CHECKS.due("all", Checks.look(m), before);
        refusals(m);
        CHECKS.end();
    }

    private static void carries(DecimalMenagerie m, int number, int whole, int fraction, int due, int longest) {
        String arguments = "(" + number + ", " + whole + ", " + fraction + ")";
        CHECKS.due("carries" + arguments, m.carries(number, whole, fraction), due);
        CHECKS.due("carriesBySums" + arguments, m.carriesBySums(number, whole, fraction), due);
        CHECKS.due("longestCarry" + arguments, m.longestCarry(number, whole, fraction), longest);
    }

    private static void refusals(DecimalMenagerie m) {
        int[][] none = {{4, 0, 0}, {-1, 0, 0}, {4, -1, 10000}};
        for (int[] a : none) {
            refused(m, NoSuchElementException.class, a);
        }
        int[][] bad = {{0, -1, 0}, {0, 1000000, 0}, {0, 0, -1}, {0, 0, 10000}, {0, Integer.MIN_VALUE, 0}, {0, 0, Integer.MAX_VALUE}};
        for (int[] a : bad) {
            refused(m, IllegalArgumentException.class, a);
        }
    }

    private static void refused(DecimalMenagerie m, Class<? extends RuntimeException> due, int[] a) {
        String arguments = "(" + a[0] + ", " + a[1] + ", " + a[2] + ")";
        CHECKS.refused("carries" + arguments, due, () -> m.carries(a[0], a[1], a[2]));
        CHECKS.refused("carriesBySums" + arguments, due, () -> m.carriesBySums(a[0], a[1], a[2]));
        CHECKS.refused("longestCarry" + arguments, due, () -> m.longestCarry(a[0], a[1], a[2]));
    }
}
