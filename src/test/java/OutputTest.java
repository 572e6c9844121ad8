import java.util.NoSuchElementException;

/** Promises 41 to 43: the output line. */
final class OutputTest {
    private static final Checks CHECKS = new Checks("OutputTest");

    private OutputTest() {
    }

    public static void main(String[] args) {
        promise41WriteNumber();
        promise42WriteQuotient();
        promise43OutputAt();
        CHECKS.end();
    }

    private static void line(DecimalMenagerie m, int length, String due) {
        StringBuilder line = new StringBuilder();
        for (int index = 0; index < length; index++) {
            line.append(m.outputAt(index));
        }
        CHECKS.due("line", line.toString(), due);
        CHECKS.refused("outputAt behind " + due, IndexOutOfBoundsException.class, () -> m.outputAt(length));
    }

    private static void promise41WriteNumber() {
        DecimalMenagerie m = new DecimalMenagerie();
        m.addNumber(7, 0, 0, 'd');
        m.addNumber(999999, 9999, 4, 'u');
        m.addNumber(0, 0, 4, 'l');
        m.addNumber(12, 5000, 2, 'h');
        m.addNumber(100, 500, 3, 'e');
        m.addNumber(0, 9000, 1, 'd');
        String[] due = {"0:7d", "1:999999.9999u", "2:0.0000l", "3:12.50h", "4:100.050e", "5:0.9d"};
        String before = Checks.look(m);
        for (int id = 0; id < due.length; id++) {
            line(m, m.writeNumber(id), due[id]);
        }
        CHECKS.due("all", Checks.look(m), before);
        CHECKS.refused("writeNumber(6)", NoSuchElementException.class, () -> m.writeNumber(6));
        CHECKS.refused("writeNumber(-1)", NoSuchElementException.class, () -> m.writeNumber(-1));
        line(m, 6, "5:0.9d");
        DecimalMenagerie many = new DecimalMenagerie();
        for (int id = 0; id < 120; id++) {
            many.addNumber(id, 0, 0, 'e');
            if (id < 119) {
                many.remove(id);
            }
        }
        line(many, many.writeNumber(119), "119:119e");
    }

    private static void quotient(int dividend, int divisor, String due) {
        DecimalMenagerie m = new DecimalMenagerie();
        line(m, m.writeQuotient(dividend, divisor), due);
    }

    private static void promise42WriteQuotient() {
        quotient(1, 6, "0.1(6)");
        quotient(5, 2, "2.5(0)");
        quotient(3, 1, "3.(0)");
        quotient(0, 7, "0.(0)");
        quotient(1, 7, "0.(142857)");
        quotient(9999, 1, "9999.(0)");
        quotient(22, 7, "3.(142857)");
        quotient(1, 12, "0.08(3)");
        quotient(1, 512, "0.001953125(0)");
        quotient(1, 23, "0.(04347826086956521739)");
        quotient(1, 41, "0.(02439)");
        quotient(1, 17, "0.(0588235294117647)");
        quotient(1, 25, "0.04(0)");
        quotient(2, 46, "0.(04347826086956521739)");
        quotient(1, 46, "0.0(21739130434782608695)");
        quotient(9999, 998, "10.0(19038076152304609218)");
        DecimalMenagerie m = new DecimalMenagerie();
        m.writeQuotient(1, 23);
        line(m, m.writeQuotient(1, 6), "0.1(6)");
        int[][] bad = {{-1, 1}, {10000, 1}, {1, 0}, {1, -1}, {1, 1000}, {Integer.MIN_VALUE, 1}, {1, Integer.MIN_VALUE}};
        for (int[] a : bad) {
            CHECKS.refused("writeQuotient(" + a[0] + ", " + a[1] + ")", IllegalArgumentException.class,
                    () -> m.writeQuotient(a[0], a[1]));
        }
        line(m, 6, "0.1(6)");
    }

    private static void promise43OutputAt() {
        DecimalMenagerie m = new DecimalMenagerie();
        CHECKS.refused("outputAt(0) of the empty line", IndexOutOfBoundsException.class, () -> m.outputAt(0));
        m.addNumber(7, 0, 0, 'd');
        m.writeNumber(0);
        for (int bad : new int[] {-1, 4, 63, 64, Integer.MIN_VALUE, Integer.MAX_VALUE}) {
            CHECKS.refused("outputAt(" + bad + ")", IndexOutOfBoundsException.class, () -> m.outputAt(bad));
        }
        m.writeQuotient(1, 23);
        m.writeNumber(0);
        line(m, 4, "0:7d");
        m.undo();
        m.save();
        m.restore();
        line(m, 4, "0:7d");
    }
}
