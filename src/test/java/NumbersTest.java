import java.util.NoSuchElementException;

/** Promises 10 to 19: the queries about numbers. */
final class NumbersTest {
    private static final Checks CHECKS = new Checks("NumbersTest");

    private NumbersTest() {
    }

    public static void main(String[] args) {
        promise10Count();
        promise11NumberAt();
        promises12To14ValueScaleMode();
        promise15Digit();
        promise16DigitSum();
        promise17NumberAtRank();
        promise18Rounded();
        promise19Part();
        CHECKS.end();
    }

    private static void promise10Count() {
        DecimalMenagerie m = new DecimalMenagerie();
        for (int count = 0; count < 6; count++) {
            CHECKS.due("count", m.count(), count);
            m.addNumber(0, 0, 0, 'd');
        }
        CHECKS.due("count", m.count(), 6);
        m.remove(3);
        CHECKS.due("count", m.count(), 5);
    }

    private static void promise11NumberAt() {
        DecimalMenagerie m = new DecimalMenagerie();
        for (int id = 0; id < 5; id++) {
            m.addNumber(5 - id, 0, 0, 'd');
        }
        m.remove(0);
        m.remove(2);
        m.addNumber(0, 0, 0, 'd');
        int[] due = {1, 3, 4, 5};
        for (int position = 0; position < due.length; position++) {
            CHECKS.due("numberAt(" + position + ")", m.numberAt(position), due[position]);
        }
        for (int bad : new int[] {-1, 4, 5, 6, Integer.MIN_VALUE, Integer.MAX_VALUE}) {
            CHECKS.refused("numberAt(" + bad + ")", IndexOutOfBoundsException.class, () -> m.numberAt(bad));
        }
    }

    private static void promises12To14ValueScaleMode() {
        DecimalMenagerie m = new DecimalMenagerie();
        m.addNumber(999999, 9999, 4, 'u');
        m.addNumber(3, 1400, 2, 'e');
        m.addNumber(0, 0, 0, 'l');
        CHECKS.due("value", m.value(0), 9999999999L);
        CHECKS.due("value", m.value(1), 31400L);
        CHECKS.due("value", m.value(2), 0L);
        CHECKS.due("scale", m.scale(0), 4);
        CHECKS.due("scale", m.scale(1), 2);
        CHECKS.due("scale", m.scale(2), 0);
        CHECKS.due("mode", m.mode(0), 'u');
        CHECKS.due("mode", m.mode(1), 'e');
        CHECKS.due("mode", m.mode(2), 'l');
        m.remove(1);
        for (int bad : new int[] {-1, 1, 3, Integer.MIN_VALUE, Integer.MAX_VALUE}) {
            CHECKS.refused("value(" + bad + ")", NoSuchElementException.class, () -> m.value(bad));
            CHECKS.refused("scale(" + bad + ")", NoSuchElementException.class, () -> m.scale(bad));
            CHECKS.refused("mode(" + bad + ")", NoSuchElementException.class, () -> m.mode(bad));
        }
    }

    private static void promise15Digit() {
        DecimalMenagerie m = new DecimalMenagerie();
        m.addNumber(987654, 3210, 4, 'd');
        m.addNumber(7, 0, 0, 'd');
        for (int place = -4; place <= 5; place++) {
            CHECKS.due("digit(0, " + place + ")", m.digit(0, place), place + 4);
            CHECKS.due("digit(1, " + place + ")", m.digit(1, place), place == 0 ? 7 : 0);
        }
        for (int bad : new int[] {-5, 6, Integer.MIN_VALUE, Integer.MAX_VALUE}) {
            CHECKS.refused("digit(0, " + bad + ")", IndexOutOfBoundsException.class, () -> m.digit(0, bad));
        }
        CHECKS.refused("digit(2, 0)", NoSuchElementException.class, () -> m.digit(2, 0));
        CHECKS.refused("number before place", NoSuchElementException.class, () -> m.digit(2, 6));
    }

    private static void promise16DigitSum() {
        DecimalMenagerie m = new DecimalMenagerie();
        m.addNumber(987654, 3210, 4, 'd');
        m.addNumber(999999, 9999, 4, 'd');
        m.addNumber(0, 0, 0, 'd');
        m.addNumber(100000, 1, 4, 'd');
        CHECKS.due("digitSum", m.digitSum(0), 45);
        CHECKS.due("digitSum", m.digitSum(1), 90);
        CHECKS.due("digitSum", m.digitSum(2), 0);
        CHECKS.due("digitSum", m.digitSum(3), 2);
        CHECKS.refused("digitSum(4)", NoSuchElementException.class, () -> m.digitSum(4));
    }

    private static void promise17NumberAtRank() {
        DecimalMenagerie m = new DecimalMenagerie();
        m.addNumber(5, 0, 0, 'd');
        m.addNumber(5, 0, 2, 'd');
        m.addNumber(9, 0, 0, 'd');
        m.addNumber(5, 0, 2, 'u');
        m.addNumber(1, 0, 4, 'd');
        m.addNumber(999999, 9999, 4, 'd');
        int[] due = {5, 2, 1, 3, 0, 4};
        for (int rank = 0; rank < due.length; rank++) {
            CHECKS.due("numberAtRank(" + rank + ")", m.numberAtRank(rank), due[rank]);
        }
        m.remove(2);
        CHECKS.due("numberAtRank(1)", m.numberAtRank(1), 1);
        for (int bad : new int[] {-1, 5, 6, Integer.MIN_VALUE, Integer.MAX_VALUE}) {
            CHECKS.refused("numberAtRank(" + bad + ")", IndexOutOfBoundsException.class, () -> m.numberAtRank(bad));
        }
    }

    private static void promise18Rounded() {
        DecimalMenagerie m = new DecimalMenagerie();
        m.addNumber(2, 5000, 4, 'd');
        m.addNumber(3, 5000, 4, 'd');
        m.addNumber(0, 1250, 4, 'd');
        m.addNumber(0, 1251, 4, 'd');
        m.addNumber(999999, 9999, 4, 'd');
        String before = Checks.look(m);
        String modes = "duhle";
        long[][] due = {
            {20000, 30000, 30000, 20000, 20000},
            {30000, 40000, 40000, 30000, 40000},
            {1200, 1300, 1300, 1200, 1200},
            {1200, 1300, 1300, 1300, 1300},
            {9999990000L, 10000000000L, 10000000000L, 10000000000L, 10000000000L},
        };
        int[] scales = {0, 0, 2, 2, 0};
        for (int id = 0; id < due.length; id++) {
            for (int i = 0; i < modes.length(); i++) {
                String call = "rounded(" + id + ", " + scales[id] + ", " + modes.charAt(i) + ")";
                CHECKS.due(call, m.rounded(id, scales[id], modes.charAt(i)), due[id][i]);
                CHECKS.due("to the scale 4", m.rounded(id, 4, modes.charAt(i)), m.value(id));
            }
        }
        CHECKS.due("all", Checks.look(m), before);
        CHECKS.refused("rounded(5)", NoSuchElementException.class, () -> m.rounded(5, 0, 'd'));
        CHECKS.refused("number first", NoSuchElementException.class, () -> m.rounded(5, 5, 'x'));
        CHECKS.refused("scale -1", IllegalArgumentException.class, () -> m.rounded(0, -1, 'd'));
        CHECKS.refused("scale 5", IllegalArgumentException.class, () -> m.rounded(0, 5, 'd'));
        CHECKS.refused("mode x", IllegalArgumentException.class, () -> m.rounded(0, 0, 'x'));
        CHECKS.refused("mode D", IllegalArgumentException.class, () -> m.rounded(0, 0, 'D'));
    }

    private static void promise19Part() {
        DecimalMenagerie m = new DecimalMenagerie();
        m.addNumber(10, 0, 0, 'd');
        m.addNumber(12, 3500, 2, 'd');
        m.addNumber(0, 2, 4, 'd');
        m.addNumber(999999, 9999, 4, 'd');
        long[] tenByThree = {40000, 30000, 30000};
        for (int index = 0; index < 3; index++) {
            CHECKS.due("part(0, 3, " + index + ")", m.part(0, 3, index), tenByThree[index]);
        }
        long[] bySeven = {17700, 17700, 17700, 17600, 17600, 17600, 17600};
        for (int index = 0; index < 7; index++) {
            CHECKS.due("part(1, 7, " + index + ")", m.part(1, 7, index), bySeven[index]);
        }
        for (int index = 0; index < 9; index++) {
            CHECKS.due("part(2, 9, " + index + ")", m.part(2, 9, index), index < 2 ? 1L : 0L);
            CHECKS.due("part(3, 9, " + index + ")", m.part(3, 9, index), 1111111111L);
        }
        CHECKS.due("one part", m.part(3, 1, 0), 9999999999L);
        CHECKS.refused("part(4)", NoSuchElementException.class, () -> m.part(4, 1, 0));
        CHECKS.refused("number first", NoSuchElementException.class, () -> m.part(4, 0, -1));
        for (int bad : new int[] {0, -1, 10, Integer.MIN_VALUE, Integer.MAX_VALUE}) {
            CHECKS.refused("parts " + bad, IllegalArgumentException.class, () -> m.part(0, bad, 0));
            CHECKS.refused("parts before index", IllegalArgumentException.class, () -> m.part(0, bad, -1));
        }
        for (int bad : new int[] {-1, 3, 9, Integer.MIN_VALUE, Integer.MAX_VALUE}) {
            CHECKS.refused("index " + bad, IndexOutOfBoundsException.class, () -> m.part(0, 3, bad));
        }
    }
}
