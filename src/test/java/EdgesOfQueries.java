import java.util.NoSuchElementException;

/** The sentences of the promises 10 to 36: the queries and totals, which change nothing. */
final class EdgesOfQueries {
    private final Edges edges;

    EdgesOfQueries(Edges edges) {
        this.edges = edges;
    }

    void test() {
        counts();
        ofOneNumber();
        digits();
        ranks();
        rounded();
        parts();
        carries();
        together();
        quotients();
        totals();
        means();
        edges.sentence(36, "Returns true if all invariants hold.", this::consistent);
    }

    private static String noNumber() {
        return "Throws `NoSuchElementException` if there is no number with this id";
    }

    // ---- promises 10 and 11

    private void counts() {
        edges.sentence(10, "Returns how many, 0 to 6.", () -> {
            DecimalMenagerie m = new DecimalMenagerie();
            for (int count = 0; count < 6; count++) {
                edges.due(m.count(), count);
                m.addNumber(0, 0, 0, 'd');
            }
            for (int count = 6; count > 0; count--) {
                edges.due(m.count(), count);
                m.remove(m.numberAt(0));
            }
            edges.due(m.count(), 0);
        });
        edges.sentence(11, "- `position`: the position, from 0", () -> {
            edges.index(0, 0, 3, 3, Scenes::zoo, DecimalMenagerie::numberAt);
            edges.index(0, 0, 2, 3, Scenes::withGap, DecimalMenagerie::numberAt);
            edges.answers(2, Scenes::withGap, m -> m.numberAt(1));
        });
        edges.sentence(11, "Throws `IndexOutOfBoundsException` if the position is negative or not less than the count",
                () -> {
                    Class<IndexOutOfBoundsException> refusal = IndexOutOfBoundsException.class;
                    edges.refuses(refusal, Scenes::none, m -> m.numberAt(0));
                    edges.refuses(refusal, Scenes::none, m -> m.numberAt(-1));
                    edges.answers(0, () -> Scenes.units(5), m -> m.numberAt(0));
                    edges.refuses(refusal, () -> Scenes.units(5), m -> m.numberAt(1));
                    edges.index(0, 0, 5, 5, Scenes::full, DecimalMenagerie::numberAt);
                });
    }

    // ---- promises 12 to 14

    private void ofOneNumber() {
        edges.sentence(12, "Returns the value in units.", () -> {
            edges.answers(0L, () -> Scenes.units(0, 9999999999L), m -> m.value(0));
            edges.answers(9999999999L, () -> Scenes.units(0, 9999999999L), m -> m.value(1));
        });
        edges.sentence(12, noNumber(), () -> edges.numbers(DecimalMenagerie::value));
        edges.sentence(13, "Returns the scale, 0 to 4.", () -> {
            edges.answers(0, Scenes::zoo, m -> m.scale(2));
            edges.answers(4, Scenes::zoo, m -> m.scale(3));
        });
        edges.sentence(13, noNumber(), () -> edges.numbers(DecimalMenagerie::scale));
        edges.sentence(14, "Returns the mode.", () -> {
            edges.answers('h', Scenes::zoo, m -> m.mode(0));
            edges.answers('e', Scenes::full, m -> m.mode(5));
        });
        edges.sentence(14, noNumber(), () -> edges.numbers(DecimalMenagerie::mode));
    }

    // ---- promises 15 and 16

    private void digits() {
        String place = "- `place`: the place: 0 for the digit before the decimal point, 1 for the one to the left of it "
                + "and so on, -1 for the first digit after the point and so on, -4 to 5";
        edges.sentence(15, place, () -> {
            edges.index(-4, 0, 5, 9, () -> Scenes.units(9876543210L), (m, a) -> m.digit(0, a));
            for (int at = -4; at <= 5; at++) {
                int here = at;
                edges.answers(here + 4, () -> Scenes.units(9876543210L), m -> m.digit(0, here));
                edges.answers(0, () -> Scenes.units(0), m -> m.digit(0, here));
                edges.answers(9, () -> Scenes.units(9999999999L), m -> m.digit(0, here));
                edges.answers(here == 0 ? 7 : 0, () -> Scenes.one(7, 0, 0, 'd'), m -> m.digit(0, here));
            }
        });
        edges.sentence(15, noNumber(), () -> edges.numbers((m, a) -> m.digit(a, 0)));
        edges.sentence(15, "Throws `IndexOutOfBoundsException` if the place is out of range", () ->
                edges.index(-4, 1, 5, 0, Scenes::zoo, (m, a) -> m.digit(3, a)));
        edges.sentence(16, "Returns the sum of the digits of the value of a number.", () -> {
            edges.answers(0, () -> Scenes.units(0), m -> m.digitSum(0));
            edges.answers(90, () -> Scenes.units(9999999999L), m -> m.digitSum(0));
            edges.answers(1, () -> Scenes.units(1), m -> m.digitSum(0));
            edges.answers(1, () -> Scenes.units(1000000000L), m -> m.digitSum(0));
            edges.answers(45, () -> Scenes.units(9876543210L), m -> m.digitSum(0));
        });
        edges.sentence(16, noNumber(), () -> edges.numbers(DecimalMenagerie::digitSum));
    }

    // ---- promise 17

    private void ranks() {
        edges.sentence(17, "Numbers are ranked by value in descending order, then by scale in descending order, then by "
                + "id in ascending order.", () -> {
                    ranked(() -> Scenes.units(5, 6), 1, 0);
                    ranked(() -> Scenes.units(6, 5), 0, 1);
                    ranked(() -> Scenes.units(5, 5), 0, 1);
                    ranked(() -> Scenes.units(0, 9999999999L, 9999999998L, 1), 1, 2, 3, 0);
                    ranked(Scenes::zoo, 2, 0, 1, 3);
                    ranked(Scenes::withGap, 2, 0, 3);
                    ranked(() -> Scenes.units(7, 7, 7, 7, 7, 7), 0, 1, 2, 3, 4, 5);
                    ranked(EdgesOfQueries::equalValues, 2, 5, 0, 3, 1, 4);
                    // A greater value goes ahead of a greater scale, whatever the ids.
                    ranked(() -> {
                        DecimalMenagerie m = Scenes.one(5, 9999, 4, 'd');
                        m.addNumber(6, 0, 0, 'd');
                        return m;
                    }, 1, 0);
                });
        edges.sentence(17, "- `rank`: the rank, from 0", () ->
                edges.index(0, 2, 3, 3, Scenes::zoo, DecimalMenagerie::numberAtRank));
        edges.sentence(17, "Throws `IndexOutOfBoundsException` if the rank is negative or not less than the count", () -> {
            edges.refuses(IndexOutOfBoundsException.class, Scenes::none, m -> m.numberAtRank(0));
            edges.refuses(IndexOutOfBoundsException.class, Scenes::none, m -> m.numberAtRank(-1));
            edges.index(0, 0, 0, 0, () -> Scenes.units(5), DecimalMenagerie::numberAtRank);
            edges.index(0, 2, 5, 3, Scenes::full, DecimalMenagerie::numberAtRank);
        });
    }

    private static DecimalMenagerie equalValues() {
        DecimalMenagerie m = new DecimalMenagerie();
        for (int scale : new int[] {2, 0, 4, 2, 0, 4}) {
            m.addNumber(3, 0, scale, 'd');
        }
        return m;
    }

    private void ranked(Edges.Scene scene, int... ids) {
        for (int rank = 0; rank < ids.length; rank++) {
            int at = rank;
            edges.answers(ids[rank], scene, m -> m.numberAtRank(at));
        }
    }

    // ---- promise 18

    private void rounded() {
        Edges.Scene top = () -> Scenes.units(9999999999L);
        edges.sentence(18, "Nothing changes, and no carry escapes, so the result can be 1000000 as a value.", () -> {
            edges.answers(10000000000L, top, m -> m.rounded(0, 0, 'u'));
            edges.answers(10000000000L, top, m -> m.rounded(0, 3, 'h'));
            edges.answers(9999990000L, top, m -> m.rounded(0, 0, 'd'));
            edges.answers(9999999999L, top, m -> m.rounded(0, 4, 'u'));
            edges.answers(9999990000L, () -> Scenes.units(9999995000L), m -> m.rounded(0, 0, 'l'));
            edges.answers(10000000000L, () -> Scenes.units(9999995000L), m -> m.rounded(0, 0, 'e'));
            edges.keepsAll(top, m -> m.rounded(0, 0, 'u'));
            edges.keepsAll(Scenes::zoo, m -> m.rounded(0, 0, 'u'));
        });
        edges.sentence(18, "- `scale`: the scale, 0 to 4", () ->
                edges.argument(0, 130000L, 4, 133500L, Scenes::zoo, (m, a) -> m.rounded(0, a, 'd')));
        edges.sentence(18, "- `mode`: the mode", () -> {
            long[] due = {20000, 30000, 30000, 20000, 20000};
            for (int i = 0; i < 5; i++) {
                char mode = Edges.MODES.charAt(i);
                // The mode that is asked for, not that of the number.
                edges.answers(due[i], () -> Scenes.one(2, 5000, 1, 'd'), m -> m.rounded(0, 0, mode));
                edges.answers(due[i], () -> Scenes.one(2, 5000, 1, 'u'), m -> m.rounded(0, 0, mode));
            }
        });
        edges.sentence(18, noNumber(), () -> edges.numbers((m, a) -> m.rounded(a, 0, 'd')));
        edges.sentence(18, "Throws `IllegalArgumentException` if the scale is out of range, or there is no such mode",
                () -> {
                    edges.refuses(IllegalArgumentException.class, Scenes::zoo, m -> m.rounded(0, -1, 'd'));
                    edges.refuses(IllegalArgumentException.class, Scenes::zoo, m -> m.rounded(0, 5, 'd'));
                    edges.modes(Scenes::zoo, (m, mode) -> m.rounded(0, 0, mode));
                });
    }

    // ---- promise 19

    private void parts() {
        edges.sentence(19, "The parts are multiples of the step of its scale, their sum is the value, the greatest part "
                + "is at most one step greater than the smallest one, and greater parts come first.", () -> {
                    int[] steps = {10000, 1000, 100, 10, 1};
                    for (int scale = 0; scale <= 4; scale++) {
                        for (int count = 0; count <= 20; count++) {
                            int units = count * steps[scale];
                            split(Scenes.one(units / 10000, units % 10000, scale, 'u'), steps[scale]);
                        }
                    }
                    split(Scenes.units(9999999999L), 1);
                    split(Scenes.one(999999, 9000, 1, 'd'), 1000);
                });
        edges.sentence(19, "- `parts`: how many parts, 1 to 9", () ->
                edges.argument(1, 133500L, 9, 14900L, Scenes::zoo, (m, a) -> m.part(0, a, 0)));
        edges.sentence(19, "- `index`: the index of the part, from 0", () -> {
            edges.index(0, 14900L, 8, 14800L, Scenes::zoo, (m, a) -> m.part(0, 9, a));
            edges.index(0, 133500L, 0, 133500L, Scenes::zoo, (m, a) -> m.part(0, 1, a));
        });
        edges.sentence(19, noNumber(), () -> edges.numbers((m, a) -> m.part(a, 2, 1)));
        edges.sentence(19, "Throws `IllegalArgumentException` if the number of parts is out of range", () -> {
            for (int bad : new int[] {0, -1, 10, Integer.MIN_VALUE, Integer.MAX_VALUE}) {
                edges.refuses(IllegalArgumentException.class, Scenes::zoo, m -> m.part(0, bad, 0));
            }
        });
        edges.sentence(19, "Throws `IndexOutOfBoundsException` if the index is negative or not less than the number of "
                + "parts", () -> {
                    for (int parts = 1; parts <= 9; parts++) {
                        int of = parts;
                        Edges.Scene nine = () -> Scenes.one(9, 0, 0, 'd');
                        edges.refuses(IndexOutOfBoundsException.class, nine, m -> m.part(0, of, -1));
                        edges.refuses(IndexOutOfBoundsException.class, nine, m -> m.part(0, of, of));
                        edges.answers(9 / of * 10000L, nine, m -> m.part(0, of, of - 1));
                    }
                });
    }

    private void split(DecimalMenagerie m, long step) {
        for (int parts = 1; parts <= 9; parts++) {
            long sum = 0;
            long first = m.part(0, parts, 0);
            long previous = first;
            for (int index = 0; index < parts; index++) {
                long part = m.part(0, parts, index);
                edges.due(part % step, 0L);
                edges.due(part <= previous && part >= 0, true);
                sum += part;
                previous = part;
            }
            edges.due(first - previous <= step, true);
            edges.due(sum, m.value(0));
        }
    }

    // ---- promises 20 to 22

    private void carries() {
        for (int promise = 20; promise <= 22; promise++) {
            int of = promise;
            edges.sentence(of, "- `whole`: the whole part of the amount, 0 to 999999", () ->
                    edges.argument(0, 0, 999999, 6, () -> Scenes.units(9999990000L), (m, a) -> ask(of, m, 0, a, 0)));
            edges.sentence(of, "- `fraction`: the fraction of the amount, 0 to 9999", () ->
                    edges.argument(0, 0, 9999, 4, () -> Scenes.units(9999), (m, a) -> ask(of, m, 0, 0, a)));
            edges.sentence(of, noNumber(), () -> edges.numbers((m, a) -> ask(of, m, a, 0, 1)));
            edges.sentence(of, "Throws `IllegalArgumentException` if the whole part or the fraction is out of range", () -> {
                int[][] bad = {{-1, 0}, {1000000, 0}, {0, -1}, {0, 10000}, {1, -1}, {-1, 10000}};
                for (int[] amount : bad) {
                    edges.refuses(IllegalArgumentException.class, Scenes::zoo, m -> ask(of, m, 0, amount[0], amount[1]));
                }
            });
        }
        edges.sentence(20, "a carry out of the place 5 counts, too.", () -> eachPlace(20));
        edges.sentence(20, "Returns the number of carries, 0 to 10.", () -> numberOfCarries(20));
        edges.sentence(21, "Returns the same number of carries, computed from the sums of the digits of the value, of "
                + "the amount and of their exact sum.", () -> eachPlace(21));
        edges.sentence(21, "Returns the number of carries, 0 to 10.", () -> numberOfCarries(21));
        edges.sentence(22, "Returns the greatest number of places in a row, each of which carries, when an amount is "
                + "added to the value of a number without rounding.", this::rows);
        edges.sentence(22, "Returns the number of places, 0 to 10.", () -> {
            edges.answers(0, () -> Scenes.units(0), m -> m.longestCarry(0, 0, 0));
            edges.answers(0, () -> Scenes.units(0), m -> m.longestCarry(0, 999999, 9999));
            edges.answers(10, () -> Scenes.units(9999999999L), m -> m.longestCarry(0, 0, 1));
            edges.answers(9, () -> Scenes.units(9999999999L), m -> m.longestCarry(0, 0, 10));
        });
    }

    private static int ask(int promise, DecimalMenagerie m, int number, int whole, int fraction) {
        switch (promise) {
            case 20:
                return m.carries(number, whole, fraction);
            case 21:
                return m.carriesBySums(number, whole, fraction);
            default:
                return m.longestCarry(number, whole, fraction);
        }
    }

    private static int ask(int promise, long value, long amount) {
        return ask(promise, Scenes.units(value), 0, (int) (amount / 10000), (int) (amount % 10000));
    }

    /** A carry at one place alone, and one that runs on from there to the left. */
    private void eachPlace(int promise) {
        long one = 1;
        for (int place = 0; place < 10; place++) {
            edges.due(ask(promise, 5 * one, 5 * one), 1);
            edges.due(ask(promise, 4 * one, 5 * one), 0);
            edges.due(ask(promise, 9 * one, one), 1);
            edges.due(ask(promise, 9999999999L / one * one, one), 10 - place);
            one *= 10;
        }
    }

    private void numberOfCarries(int promise) {
        edges.due(ask(promise, 0, 0), 0);
        edges.due(ask(promise, 0, 9999999999L), 0);
        edges.due(ask(promise, 9999999999L, 0), 0);
        edges.due(ask(promise, 4444444444L, 5555555555L), 0);
        edges.due(ask(promise, 4444444445L, 5555555555L), 10);
        edges.due(ask(promise, 9999999999L, 1), 10);
        edges.due(ask(promise, 9999999999L, 9999999999L), 10);
        edges.due(ask(promise, 5050505050L, 5050505050L), 5);
        edges.due(ask(promise, 9999900000L, 100000), 5);
        // The amount is added without rounding, whatever the scale.
        edges.due(ask(promise, Scenes.one(9, 0, 0, 'u'), 0, 0, 9999), 0);
        edges.due(ask(promise, Scenes.one(9, 0, 0, 'd'), 0, 1, 9999), 1);
    }

    private void row(int due, long value, long amount) {
        edges.due(ask(22, value, amount), due);
    }

    private void rows() {
        long one = 1;
        for (int place = 0; place < 10; place++) {
            row(1, 5 * one, 5 * one);
            row(10 - place, 9999999999L / one * one, one);
            one *= 10;
        }
        row(1, 5050505050L, 5050505050L);
        // Of two rows the longer one, be it the first or the last, and of three the one in the middle.
        row(3, 5550000055L, 5550000055L);
        row(3, 5500000555L, 5500000555L);
        row(4, 5055550550L, 5055550550L);
        row(2, 5500000055L, 5500000055L);
        row(0, 4444444444L, 5555555555L);
    }

    // ---- promises 23 to 25

    private void together() {
        Edges.Scene mixed = () -> Scenes.units(13000, 24000, 32000);
        edges.sentence(23, "- `scale`: the scale, 0 to 4", () ->
                edges.argument(0, 11000L, 4, 0L, mixed, DecimalMenagerie::togetherError));
        edges.sentence(24, "- `scale`: the scale, 0 to 4", () ->
                edges.argument(0, 11000L, 4, 0L, mixed, DecimalMenagerie::togetherErrorBySets));
        edges.sentence(25, "- `scale`: the scale, 0 to 4", () ->
                edges.argument(0, true, 4, false, mixed, (m, a) -> m.goesUp(1, a)));
        edges.sentence(23, "Throws `IllegalArgumentException` if the scale is out of range",
                () -> scales(DecimalMenagerie::togetherError));
        edges.sentence(24, "Throws `IllegalArgumentException` if the scale is out of range",
                () -> scales(DecimalMenagerie::togetherErrorBySets));
        edges.sentence(25, "Throws `IllegalArgumentException` if the scale is out of range",
                () -> scales((m, a) -> m.goesUp(0, a)));
        edges.sentence(25, noNumber(), () -> edges.numbers((m, a) -> m.goesUp(a, 0)));
        edges.sentence(23, "Returns the error of the best choice", () -> errors(DecimalMenagerie::togetherError));
        edges.sentence(24, "Returns the same error, found by trying all choices.",
                () -> errors(DecimalMenagerie::togetherErrorBySets));
        edges.sentence(25, "Returns true if its value is not a multiple of the step and is rounded to the greater "
                + "neighbour.", () -> {
                    edges.answers(false, () -> Scenes.units(10000), m -> m.goesUp(0, 0));
                    edges.answers(false, () -> Scenes.units(0), m -> m.goesUp(0, 0));
                    edges.answers(true, () -> Scenes.units(9999), m -> m.goesUp(0, 0));
                    edges.answers(true, () -> Scenes.units(5000), m -> m.goesUp(0, 0));
                    edges.answers(false, () -> Scenes.units(4999), m -> m.goesUp(0, 0));
                    edges.answers(true, () -> Scenes.units(9999999999L), m -> m.goesUp(0, 0));
                    edges.answers(false, () -> Scenes.units(5000, 5000), m -> m.goesUp(1, 0));
                    edges.answers(false, () -> Scenes.units(10000, 15000), m -> m.goesUp(0, 0));
                });
    }

    private void scales(Edges.CallWith call) {
        for (int bad : new int[] {-1, 5, Integer.MIN_VALUE, Integer.MAX_VALUE}) {
            edges.refuses(IllegalArgumentException.class, Scenes::zoo, m -> call.on(m, bad));
            edges.refuses(IllegalArgumentException.class, Scenes::full, m -> call.on(m, bad));
        }
    }

    private void errors(Edges.CallWith error) {
        for (int scale = 0; scale <= 4; scale++) {
            int at = scale;
            edges.answers(0L, Scenes::none, m -> error.on(m, at));
            edges.answers(0L, () -> Scenes.units(10000, 9999990000L, 0), m -> error.on(m, at));
        }
        edges.answers(5000L, () -> Scenes.units(5000), m -> error.on(m, 0));
        edges.answers(1L, () -> Scenes.units(9999999999L), m -> error.on(m, 0));
        edges.answers(30000L, () -> Scenes.units(5000, 5000, 5000, 5000, 5000, 5000), m -> error.on(m, 0));
        edges.answers(6L, () -> Scenes.units(9999, 9999, 9999, 9999, 9999, 9999), m -> error.on(m, 0));
        edges.answers(6L, () -> Scenes.units(1, 1, 1, 1, 1, 1), m -> error.on(m, 0));
        // Six numbers that are all near to going up, but one has to stay.
        edges.answers(14000L, () -> Scenes.units(9000, 9000, 9000, 9000, 9000, 9000), m -> error.on(m, 0));
        // The smallest error of those that keep the target; that of four numbers rounded by themselves is smaller.
        edges.answers(19998L, () -> Scenes.units(4999, 4999, 4999, 5001), m -> error.on(m, 0));
        edges.answers(20000L, () -> Scenes.units(4000, 4000, 4000, 4000), m -> error.on(m, 0));
    }

    // ---- promises 26 to 29

    private void quotients() {
        for (int from26 = 26; from26 <= 29; from26++) {
            int promise = from26;
            edges.sentence(promise, "- `dividend`: the dividend, 0 to 9999", () -> {
                int[][] due = {{0, 4}, {0, 0}, {1, 6}, {1, 6}};
                edges.argument(0, due[promise - 26][0], 9999, due[promise - 26][1], Scenes::none,
                        (m, a) -> quotient(promise, m, a, 7));
            });
            edges.sentence(promise, "- `divisor`: the divisor, 1 to 999", () -> {
                int[][] due = {{0, 1}, {0, 0}, {1, 3}, {1, 3}};
                edges.argument(1, due[promise - 26][0], 999, due[promise - 26][1], Scenes::none,
                        (m, a) -> quotient(promise, m, 100, a));
            });
            edges.sentence(promise, "Throws `IllegalArgumentException` if the dividend or the divisor is out of range", () -> {
                int[][] bad = {{-1, 7}, {10000, 7}, {1, 0}, {0, 0}, {1, -1}, {1, 1000}, {-1, -1}, {10000, 1000}};
                for (int[] of : bad) {
                    edges.refuses(IllegalArgumentException.class, Scenes::zoo, m -> quotient(promise, m, of[0], of[1]));
                }
            });
        }
        edges.sentence(26, "- `position`: the position, 1 to 9999", () -> {
            edges.index(1, 1, 9999, 2, Scenes::none, (m, a) -> m.quotientDigit(1, 7, a));
            edges.index(1, 0, 9999, 0, Scenes::none, (m, a) -> m.quotientDigit(3, 1, a));
        });
        edges.sentence(26, "Throws `IndexOutOfBoundsException` if the position is out of range", () -> {
            for (int bad : new int[] {0, -1, 10000, Integer.MIN_VALUE, Integer.MAX_VALUE}) {
                edges.refuses(IndexOutOfBoundsException.class, Scenes::zoo, m -> m.quotientDigit(1, 7, bad));
            }
        });
        edges.sentence(29, "computed from the divisor of the quotient in lowest terms without its factors 2 and 5: the "
                + "smallest exponent of 10, at least 1, with which the power minus 1 is divisible by it.", () -> {
                    powers(1, 0, 1);
                    powers(1, 0, 999);
                    powers(1, 1, 1);
                    powers(1, 5, 2);
                    powers(1, 1, 512);
                    powers(1, 1, 625);
                    powers(1, 1, 3);
                    powers(1, 1, 9);
                    powers(2, 1, 11);
                    powers(3, 1, 27);
                    powers(6, 1, 7);
                    powers(6, 1, 7 * 128);
                    powers(6, 1, 7 * 125);
                    powers(1, 7, 7 * 125);
                    powers(1, 21, 7 * 9);
                    powers(982, 9999, 983);
                });
    }

    private void powers(int due, int dividend, int divisor) {
        edges.answers(due, Scenes::none, m -> m.periodByPowers(dividend, divisor));
        edges.answers(due, Scenes::none, m -> m.period(dividend, divisor));
    }

    private static int quotient(int promise, DecimalMenagerie m, int dividend, int divisor) {
        switch (promise) {
            case 26:
                return m.quotientDigit(dividend, divisor, 1);
            case 27:
                return m.preperiod(dividend, divisor);
            case 28:
                return m.period(dividend, divisor);
            default:
                return m.periodByPowers(dividend, divisor);
        }
    }

    // ---- promises 30 to 33

    private void totals() {
        edges.sentence(30, "Returns the sum of all values", () -> {
            edges.answers(0L, Scenes::none, DecimalMenagerie::total);
            edges.answers(0L, () -> Scenes.units(0), DecimalMenagerie::total);
            edges.answers(1198501L, Scenes::zoo, DecimalMenagerie::total);
            edges.answers(1123501L, Scenes::withGap, DecimalMenagerie::total);
            edges.answers(6 * 9999999999L, EdgesOfQueries::sixGreatest, DecimalMenagerie::total);
        });
        edges.sentence(31, "the values that numbers had when they were added, plus the amounts that were fed by calls of "
                + "feed, plus the crumbs, minus the values of removed numbers, minus 1000000 for each escaped carry.",
                this::accounts);
        edges.sentence(32, "Returns how many carries have escaped so far.", () -> {
            edges.answers(0, Scenes::none, DecimalMenagerie::escapes);
            edges.answers(1, Scenes::zoo, DecimalMenagerie::escapes);
            DecimalMenagerie m = sixGreatest();
            m.setScale(0, 3);
            edges.due(m.escapes(), 0);
            for (int id = 0; id < 6; id++) {
                m.setMode(id, 'u');
                m.setScale(id, 2);
            }
            // The number 0 was rounded down before.
            edges.due(m.escapes(), 6);
            m.remove(1);
            edges.due(m.escapes(), 6);
            m.undo();
            m.undo();
            edges.due(m.escapes(), 5);
        });
        edges.sentence(33, "Returns the crumbs in units, possibly negative.", () -> {
            edges.answers(0L, Scenes::none, DecimalMenagerie::crumbs);
            edges.answers(-949L, Scenes::zoo, DecimalMenagerie::crumbs);
            edges.answers(-9999L, EdgesOfQueries::greatestCrumbDown, DecimalMenagerie::crumbs);
        });
    }

    private static DecimalMenagerie sixGreatest() {
        long most = 9999999999L;
        return Scenes.units(most, most, most, most, most, most);
    }

    private static DecimalMenagerie greatestCrumbDown() {
        DecimalMenagerie m = Scenes.one(999999, 0, 0, 'd');
        m.feed(0, 0, 9999);
        return m;
    }

    private void account(DecimalMenagerie m, long due) {
        edges.due(m.totalByAccounts(), due);
        edges.due(m.total(), due);
    }

    private void accounts() {
        DecimalMenagerie m = new DecimalMenagerie();
        account(m, 0);
        m.addNumber(999999, 9999, 4, 'd');
        account(m, 9999999999L);
        m.addQuotient(1, 3, 2, 'u');
        account(m, 10000003399L);
        m.feed(1, 0, 1);
        account(m, 10000003499L);
        m.trade(1, 0, 0, 100);
        account(m, 3499);
        m.setScale(0, 1);
        account(m, 3400);
        m.feed(0, 999999, 9999);
        account(m, 10000002400L);
        m.remove(0);
        account(m, 3400);
        Scenes.run(m, "add 5 1 e;feed 1 0.5;trade 2-1 0.6;free 1");
        account(m, 44000);
        m.roundTogether(0);
        account(m, 40000);
        m.undo();
        account(m, 44000);
        m.remove(2);
        account(m, 0);
    }

    // ---- promises 34 and 35

    private void means() {
        edges.sentence(34, "Returns the sum in units divided by the count, both converted to double, divided by 10000.0.",
                () -> {
                    edges.answers(0.0, () -> Scenes.units(0), DecimalMenagerie::meanValue);
                    edges.answers(0.0001, () -> Scenes.units(1), DecimalMenagerie::meanValue);
                    edges.answers(1.0 / 2.0 / 10000.0, () -> Scenes.units(1, 0), DecimalMenagerie::meanValue);
                    edges.answers(20000.0 / 3.0 / 10000.0, () -> Scenes.units(10000, 10000, 0), DecimalMenagerie::meanValue);
                    edges.answers(59999999994.0 / 6.0 / 10000.0, EdgesOfQueries::sixGreatest, DecimalMenagerie::meanValue);
                    edges.answers(1198501.0 / 4.0 / 10000.0, Scenes::zoo, DecimalMenagerie::meanValue);
                });
        edges.sentence(34, "Throws `ArithmeticException` if there are no numbers", () -> {
            edges.refuses(ArithmeticException.class, Scenes::none, DecimalMenagerie::meanValue);
            edges.refuses(ArithmeticException.class, () -> {
                DecimalMenagerie m = Scenes.units(5, 0);
                m.remove(0);
                m.remove(1);
                return m;
            }, DecimalMenagerie::meanValue);
        });
        edges.sentence(35, "Returns its value in units divided by the sum in units, both converted to float.", () -> {
            edges.answers(1.0f, () -> Scenes.units(1), m -> m.share(0));
            edges.answers(0.0f, () -> Scenes.units(1, 0), m -> m.share(1));
            edges.answers(1.0f / 3.0f, () -> Scenes.units(1, 2), m -> m.share(0));
            edges.answers(2.0f / 3.0f, () -> Scenes.units(1, 2), m -> m.share(1));
            edges.answers(9999999999.0f / 59999999994.0f, EdgesOfQueries::sixGreatest, m -> m.share(5));
            // Neither 16777217 nor the sum 33554435 is a float; each is converted by itself.
            edges.answers(16777217.0f / 33554435.0f, () -> Scenes.units(16777217, 16777218), m -> m.share(0));
        });
        edges.sentence(35, noNumber(), () -> edges.numbers(DecimalMenagerie::share));
        edges.sentence(35, "Throws `ArithmeticException` if the sum is 0", () -> {
            edges.refuses(ArithmeticException.class, () -> Scenes.units(0), m -> m.share(0));
            edges.refuses(ArithmeticException.class, () -> Scenes.units(0, 0, 0, 0, 0, 0), m -> m.share(5));
            edges.answers(0.0f, () -> Scenes.units(0, 0, 1), m -> m.share(0));
        });
    }

    // ---- promise 36

    private void consistent() {
        Edges.Scene[] scenes = {Scenes::none, Scenes::zoo, Scenes::withGap, Scenes::full, EdgesOfQueries::sixGreatest,
            EdgesOfQueries::equalValues, EdgesOfQueries::greatestCrumbDown, () -> Scenes.units(0),
            () -> Scenes.units(5000, 5000, 5000, 5000, 5000, 5000), () -> Scenes.units(9999980001L, 9999980000L)};
        for (Edges.Scene scene : scenes) {
            edges.answers(true, scene, DecimalMenagerie::isConsistent);
            DecimalMenagerie m = scene.make();
            for (int scale = 4; scale >= 0; scale--) {
                m.roundTogether(scale);
                edges.due(m.isConsistent(), true);
            }
            while (Edges.answer(m, DecimalMenagerie::undo) instanceof Integer) {
                edges.due(m.isConsistent(), true);
            }
        }
    }
}
