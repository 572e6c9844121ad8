import java.math.BigInteger;

/** The sentences ahead of promise 1, but for those on programs, undo and exceptions. */
final class EdgesOfTerms {
    private static final int TERMS = Edges.TERMS;
    private static final long[] STEPS = {10000, 1000, 100, 10, 1};
    private static final int MOST_CALLS = 512;

    private final Edges edges;

    EdgesOfTerms(Edges edges) {
        this.edges = edges;
    }

    void test() {
        edges.sentence(TERMS, "An object is used for at most 512 calls after it has been made", this::lastCalls);
        numbers();
        scales();
        rounding();
        edges.sentence(TERMS, "When a value would become 1000000 or more, 1000000 is subtracted from it, "
                + "and one carry escapes.", this::escapes);
        edges.sentence(TERMS, "When a sum is rounded, the rounded sum minus the exact sum is added to the crumbs, "
                + "which are counted in units, are initially 0 and can be negative.", this::crumbs);
        together();
        quotients();
    }

    // ---- objects

    private void lastCalls() {
        DecimalMenagerie ids = new DecimalMenagerie();
        for (int id = 0; id < MOST_CALLS / 2 - 1; id++) {
            edges.due(ids.addNumber(id, 0, 0, 'd'), id);
            edges.due(ids.remove(id), id * 10000L);
        }
        edges.due(ids.addNumber(1, 0, 0, 'd'), 255);
        edges.due(ids.writeNumber(255), "255:1d".length());

        DecimalMenagerie escapes = Scenes.units(9999999999L);
        for (int call = 2; call < MOST_CALLS; call++) {
            edges.due(escapes.feed(0, 999999, 9999), 9999999999L - (call - 1));
        }
        edges.due(escapes.escapes(), 510);

        DecimalMenagerie crumbs = Scenes.one(0, 0, 0, 'u');
        for (int call = 2; call < MOST_CALLS; call++) {
            edges.due(crumbs.feed(0, 0, 1), 10000L * (call - 1));
        }
        edges.due(crumbs.crumbs(), 510L * 9999);
    }

    // ---- numbers

    private void numbers() {
        edges.sentence(TERMS, "There are at most 6 numbers at a time.", this::atMostSix);
        edges.sentence(TERMS, "Each number has an id; ids are given in ascending order from 0 and not used again.",
                this::ids);
        edges.sentence(TERMS, "A number has a value that is at least 0 and less than 1000000, "
                + "with at most 4 digits after the decimal point.", this::values);
        edges.sentence(TERMS, "Values, amounts and sums of them are counted in units of one ten-thousandth: "
                + "the value 12.5 is 125000 units.", this::units);
        edges.sentence(TERMS, "An amount is given by a whole part from 0 to 999999 and a fraction from 0 to 9999, "
                + "which is the number of ten-thousandths.", this::amounts);
    }

    private void atMostSix() {
        DecimalMenagerie m = new DecimalMenagerie();
        for (int id = 0; id < 6; id++) {
            edges.due(m.addNumber(0, 0, 0, 'd'), id);
            edges.due(m.count(), id + 1);
        }
        edges.refuses(IllegalStateException.class, Scenes::full, x -> x.addNumber(0, 0, 0, 'd'));
        edges.refuses(IllegalStateException.class, Scenes::full, x -> x.addQuotient(1, 3, 0, 'd'));
        edges.due(Scenes.run(m, "add 0 0 d"), UnsupportedOperationException.class);
        edges.due(m.count(), 6);
        m.remove(2);
        edges.due(m.addQuotient(1, 3, 0, 'd'), 6);
        edges.due(answerOfAdd(m), IllegalStateException.class);
    }

    private static Object answerOfAdd(DecimalMenagerie m) {
        return Edges.answer(m, x -> x.addNumber(0, 0, 0, 'd'));
    }

    private void ids() {
        DecimalMenagerie m = new DecimalMenagerie();
        edges.due(m.addNumber(0, 0, 0, 'd'), 0);
        edges.due(m.addQuotient(0, 1, 0, 'd'), 1);
        m.remove(1);
        edges.due(m.addNumber(0, 0, 0, 'd'), 2);
        m.remove(0);
        m.remove(2);
        edges.due(m.addQuotient(0, 1, 0, 'd'), 3);
        // A call that is refused gives no id, and neither does a program that fails behind its add.
        edges.due(Edges.answer(m, x -> x.addNumber(0, 1, 0, 'd')), UnsupportedOperationException.class);
        edges.due(Scenes.run(m, "add 1 0 d;free 9"), UnsupportedOperationException.class);
        edges.due(Scenes.run(m, "add 1 0 d;free 4"), 2);
        edges.due(m.addNumber(0, 0, 0, 'd'), 5);
    }

    private void values() {
        edges.due(Scenes.one(0, 0, 4, 'd').value(0), 0L);
        edges.due(Scenes.one(0, 1, 4, 'd').value(0), 1L);
        edges.due(Scenes.one(999999, 9999, 4, 'd').value(0), 9999999999L);
        DecimalMenagerie emptied = Scenes.units(1, 5);
        emptied.trade(0, 1, 0, 1);
        edges.due(emptied.value(0), 0L);
        edges.due(Edges.answer(emptied, m -> m.trade(0, 1, 0, 1)), IllegalStateException.class);
        edges.due(Scenes.units(9999999998L).feed(0, 0, 1), 9999999999L);
        edges.due(Scenes.units(9999999999L).feed(0, 0, 1), 0L);
    }

    private void units() {
        DecimalMenagerie m = Scenes.one(12, 5000, 1, 'h');
        edges.due(m.value(0), 125000L);
        edges.due(m.total(), 125000L);
        edges.due(m.totalByAccounts(), 125000L);
        edges.due(m.rounded(0, 0, 'd'), 120000L);
        edges.due(m.part(0, 2, 0), 63000L);
        edges.due(m.feed(0, 1, 2500), 138000L);
        edges.due(m.crumbs(), 500L);
        edges.due(m.togetherError(0), 2000L);
        edges.due(m.remove(0), 138000L);
    }

    private void amounts() {
        Edges.Scene zero = () -> Scenes.units(0);
        Edges.Scene rich = () -> Scenes.units(9999999999L, 0);
        Edges.Scene none = Scenes::none;
        edges.argument(0, 0, 999999, 0, none, (m, a) -> m.addNumber(a, 0, 4, 'd'));
        edges.argument(0, 0, 9999, 0, none, (m, a) -> m.addNumber(0, a, 4, 'd'));
        edges.argument(0, 0L, 999999, 9999990000L, zero, (m, a) -> m.feed(0, a, 0));
        edges.argument(0, 0L, 9999, 9999L, zero, (m, a) -> m.feed(0, 0, a));
        edges.argument(0, 0L, 999999, 9999990000L, rich, (m, a) -> m.trade(0, 1, a, 0));
        edges.argument(0, 0L, 9999, 9999L, rich, (m, a) -> m.trade(0, 1, 0, a));
        edges.argument(0, 0, 999999, 6, rich, (m, a) -> m.carries(0, a, 0));
        edges.argument(0, 0, 9999, 10, rich, (m, a) -> m.carries(0, 0, a));
        edges.argument(0, 0, 999999, 6, rich, (m, a) -> m.carriesBySums(0, a, 0));
        edges.argument(0, 0, 9999, 10, rich, (m, a) -> m.carriesBySums(0, 0, a));
        edges.argument(0, 0, 999999, 6, rich, (m, a) -> m.longestCarry(0, a, 0));
        edges.argument(0, 0, 9999, 10, rich, (m, a) -> m.longestCarry(0, 0, a));
        edges.answers(1L, zero, m -> m.feed(0, 0, 1));
        edges.answers(10001L, zero, m -> m.feed(0, 1, 1));
    }

    // ---- scales

    private void scales() {
        edges.sentence(TERMS, "A number has a scale from 0 to 4.", this::scalesOfNumbers);
        edges.sentence(TERMS, "The step of a scale is 10000 units for the scale 0, 1000 for 1, 100 for 2, "
                + "10 for 3 and 1 for 4.", this::steps);
        edges.sentence(TERMS, "The value of a number is always a multiple of the step of its scale.",
                this::alwaysMultiples);
    }

    private void scalesOfNumbers() {
        for (int scale = 0; scale <= 4; scale++) {
            edges.due(Scenes.one(3, 0, scale, 'd').scale(0), scale);
        }
        Edges.Scene one = () -> Scenes.one(3, 0, 2, 'd');
        edges.argument(0, 0, 4, 0, Scenes::none, (m, a) -> m.addNumber(3, 0, a, 'd'));
        edges.argument(0, 0, 4, 0, Scenes::none, (m, a) -> m.addQuotient(3, 1, a, 'd'));
        edges.argument(0, 2, 4, 2, one, (m, a) -> m.setScale(0, a));
        edges.argument(0, 0, 4, 0, one, DecimalMenagerie::roundTogether);
        edges.argument(0, 30000L, 4, 30000L, one, (m, a) -> m.rounded(0, a, 'u'));
        edges.argument(0, 0L, 4, 0L, one, DecimalMenagerie::togetherError);
        edges.argument(0, 0L, 4, 0L, one, DecimalMenagerie::togetherErrorBySets);
        edges.argument(0, false, 4, false, one, (m, a) -> m.goesUp(0, a));
    }

    private void steps() {
        for (int scale = 0; scale <= 4; scale++) {
            int at = scale;
            long step = STEPS[scale];
            edges.answers(step, () -> Scenes.units(1), m -> m.rounded(0, at, 'u'));
            edges.answers(step, () -> Scenes.units(step), m -> m.rounded(0, at, 'd'));
            edges.answers(0L, () -> Scenes.units(step - 1), m -> m.rounded(0, at, 'd'));
            edges.answers(2 * step, () -> Scenes.units(step + 1), m -> m.rounded(0, at, 'u'));
        }
    }

    private void alwaysMultiples() {
        for (int scale = 0; scale <= 4; scale++) {
            for (int i = 0; i < 5; i++) {
                DecimalMenagerie m = Scenes.one(3, 0, scale, Edges.MODES.charAt(i));
                m.addNumber(999999, 9999, 4, 'd');
                m.feed(0, 7, 1234);
                multiple(m);
                m.trade(1, 0, 99, 8765);
                multiple(m);
                m.feed(0, 999990, 7777);
                multiple(m);
                m.setScale(1, scale);
                multiple(m);
                m.setScale(0, Math.max(0, scale - 1));
                multiple(m);
                m.addQuotient(22, 7, scale, Edges.MODES.charAt(i));
                multiple(m);
                m.roundTogether(Math.max(0, scale - 2));
                multiple(m);
                m.undo();
                multiple(m);
            }
        }
    }

    private void multiple(DecimalMenagerie m) {
        for (int position = 0; position < m.count(); position++) {
            int id = m.numberAt(position);
            edges.due(m.value(id) % STEPS[m.scale(id)], 0L);
        }
    }

    // ---- rounding

    private void rounding() {
        edges.sentence(TERMS, "To round a sum to a scale means to choose a multiple of the step: the sum itself "
                + "if it is one, and otherwise one of its two neighbours, the greatest smaller and the smallest "
                + "greater multiple.", this::neighbours);
        edges.sentence(TERMS, "'d' chooses the smaller neighbour", () -> ups('d', "------"));
        edges.sentence(TERMS, "'u' the greater one", () -> ups('u', "++++++"));
        edges.sentence(TERMS, "'h' the nearer one, and the greater one if both are equally near",
                () -> ups('h', "--++++"));
        edges.sentence(TERMS, "'l' the nearer one, and the smaller one if both are equally near",
                () -> ups('l', "----++"));
        edges.sentence(TERMS, "'e' the nearer one, and if both are equally near the one that is an even multiple "
                + "of the step", () -> ups('e', "---+++"));
        edges.sentence(TERMS, "Each number has a mode.", this::modesOfNumbers);
    }

    private void neighbours() {
        for (int scale = 0; scale <= 4; scale++) {
            long step = STEPS[scale];
            for (int i = 0; i < 5; i++) {
                char mode = Edges.MODES.charAt(i);
                for (long multiple : new long[] {0, 1, 2, 3, 9, 10, 99}) {
                    rounds(scale, mode, multiple * step, 0, multiple * step);
                }
                // The greatest value there is that is a multiple.
                rounds(scale, mode, 9999999999L / step * step, 0, 9999999999L / step * step);
            }
        }
    }

    /** Whether it goes up 1 unit above the smaller neighbour, 1 below the half, at the half of an even and of an
     * odd multiple, 1 above the half, and 1 below the greater neighbour. */
    private void ups(char mode, String ups) {
        for (int scale = 0; scale <= 3; scale++) {
            long step = STEPS[scale];
            long half = step / 2;
            for (long multiple : new long[] {0, 1, 2, 7, 8, 9, 99}) {
                long below = multiple * step;
                rounds(scale, mode, below, 1, up(ups, 0, below, step));
                rounds(scale, mode, below, half - 1, up(ups, 1, below, step));
                rounds(scale, mode, below, half, up(ups, multiple % 2 == 0 ? 2 : 3, below, step));
                rounds(scale, mode, below, half + 1, up(ups, 4, below, step));
                rounds(scale, mode, below, step - 1, up(ups, 5, below, step));
            }
        }
    }

    private static long up(String ups, int index, long below, long step) {
        return ups.charAt(index) == '+' ? below + step : below;
    }

    /** All the ways in which a multiple and a rest come to be rounded. */
    private void rounds(int scale, char mode, long below, long rest, long due) {
        long crumbs = due - below - rest;
        DecimalMenagerie asked = Scenes.units(below + rest);
        edges.due(asked.rounded(0, scale, mode), due);

        DecimalMenagerie fed = Scenes.one((int) (below / 10000), (int) (below % 10000), scale, mode);
        edges.due(fed.feed(0, 0, (int) rest), due);
        edges.due(fed.crumbs(), crumbs);

        DecimalMenagerie traded = Scenes.one((int) (below / 10000), (int) (below % 10000), scale, mode);
        traded.addNumber(0, (int) rest, 4, 'd');
        edges.due(traded.trade(1, 0, 0, (int) rest), due);
        edges.due(traded.crumbs(), crumbs);

        DecimalMenagerie rescaled = Scenes.units(below + rest);
        rescaled.setMode(0, mode);
        rescaled.setScale(0, scale);
        edges.due(rescaled.value(0), due);
        edges.due(rescaled.crumbs(), crumbs);
    }

    private void modesOfNumbers() {
        DecimalMenagerie m = new DecimalMenagerie();
        for (int id = 0; id < 5; id++) {
            m.addNumber(2, 0, 0, Edges.MODES.charAt(id));
        }
        long[] due = {20000, 30000, 30000, 20000, 20000};
        for (int id = 0; id < 5; id++) {
            edges.due(m.mode(id), Edges.MODES.charAt(id));
            edges.due(m.feed(id, 0, 5000), due[id]);
        }
    }

    // ---- escapes

    private void escapes() {
        becomes(9999999999L, 0, () -> Scenes.units(9999999998L), m -> m.feed(0, 0, 1));
        becomes(0L, 1, () -> Scenes.units(9999999999L), m -> m.feed(0, 0, 1));
        becomes(1L, 1, () -> Scenes.units(9999999999L), m -> m.feed(0, 0, 2));
        becomes(9999999998L, 1, () -> Scenes.units(9999999999L), m -> m.feed(0, 999999, 9999));
        becomes(9999999999L, 0, () -> Scenes.units(9999999998L, 9), m -> m.trade(1, 0, 0, 1));
        becomes(0L, 1, () -> Scenes.units(9999999998L, 9), m -> m.trade(1, 0, 0, 2));
        becomes(1L, 1, () -> Scenes.units(9999999998L, 9), m -> m.trade(1, 0, 0, 3));
        // What is rounded counts, not the exact sum.
        Edges.Scene half = () -> Scenes.one(999999, 0, 0, 'h');
        becomes(9999990000L, 0, half, m -> m.feed(0, 0, 4999));
        becomes(0L, 1, half, m -> m.feed(0, 0, 5000));
        becomes(0L, 1, half, m -> m.feed(0, 1, 4999));
        becomes(10000L, 1, half, m -> m.feed(0, 1, 5000));
        becomes(9999990000L, 0, () -> Scenes.one(999999, 0, 0, 'd'), m -> m.feed(0, 0, 9999));
        becomes(0L, 1, () -> Scenes.one(999999, 0, 0, 'u'), m -> m.feed(0, 0, 1));
        becomes(0L, 1, () -> Scenes.one(999999, 9900, 2, 'l'), m -> m.feed(0, 0, 51));
        becomes(9999999900L, 0, () -> Scenes.one(999999, 9900, 2, 'l'), m -> m.feed(0, 0, 50));
        becomes(0L, 1, () -> Scenes.one(999999, 9990, 3, 'e'), m -> m.feed(0, 0, 5));
        becomes(0L, 1, () -> Scenes.one(999999, 9000, 1, 'h'), m -> m.setScale(0, 0));
        becomes(9999990000L, 0, () -> Scenes.one(999999, 4000, 1, 'h'), m -> m.setScale(0, 0));
        becomes(0L, 1, () -> Scenes.units(9999995000L), m -> m.roundTogether(0));
        becomes(9999990000L, 0, () -> Scenes.units(9999994999L), m -> m.roundTogether(0));
        becomes(0L, 2, () -> Scenes.units(9999999000L, 9999999000L), m -> m.roundTogether(0));
        becomes(0L, 1, () -> Scenes.units(9999999999L), m -> Scenes.run(m, "feed 0 0.0001"));
        // These make no value become as great, or only ask.
        becomes(9999999999L, 0, Scenes::none, m -> m.addNumber(999999, 9999, 4, 'u'));
        becomes(99990000L, 0, Scenes::none, m -> m.addQuotient(9999, 1, 0, 'u'));
        becomes(9999999999L, 0, () -> Scenes.units(9999999999L), m -> m.rounded(0, 0, 'u'));
        becomes(9999999999L, 0, () -> Scenes.units(9999999999L), m -> m.carries(0, 999999, 9999));
    }

    private void becomes(long value, int escapes, Edges.Scene scene, Edges.Call call) {
        DecimalMenagerie m = scene.make();
        call.on(m);
        edges.due(m.value(0), value);
        edges.due(m.escapes(), escapes);
        edges.due(m.total(), m.totalByAccounts());
    }

    // ---- crumbs

    private void crumbs() {
        DecimalMenagerie m = new DecimalMenagerie();
        edges.due(m.crumbs(), 0L);
        m.addNumber(5, 0, 0, 'd');
        edges.due(m.crumbs(), 0L);
        m.feed(0, 0, 1);
        edges.due(m.crumbs(), -1L);
        m.feed(0, 3, 9999);
        edges.due(m.crumbs(), -10000L);
        m.setMode(0, 'u');
        m.feed(0, 0, 1);
        edges.due(m.crumbs(), -1L);
        m.feed(0, 0, 9998);
        edges.due(m.crumbs(), 1L);
        m.feed(0, 7, 0);
        edges.due(m.crumbs(), 1L);
        m.addNumber(0, 9, 4, 'd');
        m.trade(1, 0, 0, 4);
        edges.due(m.crumbs(), 9997L);
        m.setScale(1, 3);
        edges.due(m.crumbs(), 9992L);
        m.addNumber(0, 700, 2, 'd');
        m.roundTogether(1);
        edges.due(m.crumbs(), 10292L);
        m.addQuotient(1, 3, 0, 'u');
        m.rounded(3, 0, 'u');
        m.remove(3);
        edges.due(m.crumbs(), 10292L);
        DecimalMenagerie escaping = Scenes.one(999999, 0, 0, 'u');
        escaping.feed(0, 0, 1);
        edges.due(escaping.crumbs(), 9999L);
    }

    // ---- rounding together

    private void together() {
        edges.sentence(TERMS, "To round all numbers together to a scale, the target is the sum of all values, "
                + "rounded to this scale with the mode 'h'.", this::targets);
        edges.sentence(TERMS, "A choice rounds each number whose value is not a multiple of the step to one of its "
                + "two neighbours, such that the sum of all rounded values, before carries escape, is the target.",
                this::choices);
        edges.sentence(TERMS, "Its error is the sum of the absolute differences of the rounded values and the values.",
                this::errors);
        edges.sentence(TERMS, "The best choice has the smallest error; among several of these, it is the one that "
                + "rounds up the number with the lowest id in which they differ.", this::bestChoices);
    }

    /** What is asked of rounding together, and what it does; "+" stands for a number that goes up. */
    private void best(int scale, String ups, long error, long... values) {
        for (int i = 0; i < 5; i++) {
            DecimalMenagerie m = Scenes.units(values);
            for (int id = 0; id < values.length; id++) {
                m.setMode(id, Edges.MODES.charAt(i));
            }
            edges.due(m.togetherError(scale), error);
            edges.due(m.togetherErrorBySets(scale), error);
            int count = 0;
            for (int id = 0; id < values.length; id++) {
                boolean isUp = ups.charAt(id) == '+';
                edges.due(m.goesUp(id, scale), isUp);
                count += isUp ? 1 : 0;
            }
            edges.due(m.roundTogether(scale), count);
            for (int id = 0; id < values.length; id++) {
                long below = values[id] - values[id] % STEPS[scale];
                long above = (below + STEPS[scale]) % 10000000000L;
                edges.due(m.value(id), ups.charAt(id) == '+' ? above : below);
                edges.due(m.scale(id), scale);
            }
        }
    }

    private void targets() {
        for (int scale = 0; scale <= 3; scale++) {
            long step = STEPS[scale];
            long half = step / 2;
            best(scale, "+", half, 4 * step + half);
            best(scale, "+", half, 5 * step + half);
            best(scale, "-", half - 1, 5 * step + half - 1);
            best(scale, "+", half - 1, 4 * step + half + 1);
            // One and a half, and one unit less.
            best(scale, "++-", 3 * half, half, half, half);
            best(scale, "+--", 3 * half - 1, half, half, half - 1);
        }
        best(0, "+-", 10000, 2500, 2500);
        best(0, "--", 4999, 2500, 2499);
        best(4, "---", 0, 1, 0, 9999999999L);
        best(0, "", 0);
    }

    private void choices() {
        best(0, "-+", 1000, 50000, 19000);
        best(0, "+-", 1000, 19000, 50000);
        best(0, "--", 0, 50000, 0);
        best(0, "------", 6, 1, 1, 1, 1, 1, 1);
        // So many of the smallest rests that one goes up nevertheless.
        best(3, "----", 4, 1, 1, 1, 1);
        best(3, "+----", 13, 1, 1, 1, 1, 1);
        best(3, "+-----", 14, 1, 1, 1, 1, 1, 1);
        best(0, "++++++", 6, 9999, 9999, 9999, 9999, 9999, 9999);
        // The sum before carries escape, here 1999999.9 to 2000000, and 1000000.4 to 1000000.
        best(0, "++-", 3000, 9999999000L, 9999999000L, 1000);
        best(0, "+-", 6000, 9999998000L, 4000);
        best(2, "+-", 60, 9999999970L, 30);
    }

    private void errors() {
        best(0, "-+-", 3000 + 6000 + 2000, 13000, 24000, 32000);
        best(1, "+-+", 100 + 400 + 300, 900, 400, 700);
        best(0, "+++++-", 5 * 1000 + 9000, 9000, 9000, 9000, 9000, 9000, 9000);
        best(3, "-+", 4 + 4, 4, 6);
        best(0, "+", 1, 9999999999L);
    }

    private void bestChoices() {
        best(0, "-+", 8000, 4000, 6000);
        best(0, "+-", 8000, 6000, 4000);
        best(0, "+++---", 30000, 5000, 5000, 5000, 5000, 5000, 5000);
        best(0, "++-", 11000, 5000, 9000, 5000);
        best(0, "-++---", 18000, 4000, 6000, 5000, 5000, 0, 0);
        best(0, "+-+", 3000, 9000, 1000, 9000);
        best(1, "-+", 500, 0, 1500);
        // Equals in other whole parts, and with an id missing between them.
        best(0, "+--+-", 12000, 45000, 15000, 1000, 999000, 0);
        DecimalMenagerie gap = Scenes.units(5000, 5000, 5000, 5000);
        gap.remove(0);
        gap.remove(2);
        edges.due(gap.goesUp(1, 0), true);
        edges.due(gap.goesUp(3, 0), false);
    }

    // ---- quotients

    private void quotients() {
        edges.sentence(TERMS, "A quotient of a dividend from 0 to 9999 and a divisor from 1 to 999",
                this::dividendsAndDivisors);
        edges.sentence(TERMS, "has decimal digits after the point that are found by the usual long division, "
                + "without an end; position 1 is the first of them.", this::digits);
        edges.sentence(TERMS, "The preperiod is the smallest number of digits after which the digits recur, "
                + "and the period is the smallest number of digits that recur from there on;", this::recurring);
        edges.sentence(TERMS, "a quotient whose digits end has the period 1, because zeros recur.", this::ending);
    }

    private void dividendsAndDivisors() {
        Edges.Scene none = Scenes::none;
        edges.argument(0, 0, 9999, 0, none, (m, a) -> m.addQuotient(a, 7, 4, 'd'));
        edges.argument(0, 0, 9999, 4, none, (m, a) -> m.quotientDigit(a, 7, 1));
        edges.argument(0, 0, 9999, 1, none, (m, a) -> m.preperiod(a, 6));
        edges.argument(0, 1, 9999, 6, none, (m, a) -> m.period(a, 7));
        edges.argument(0, 1, 9999, 6, none, (m, a) -> m.periodByPowers(a, 7));
        edges.argument(0, "0.(0)".length(), 9999, "1428.(428571)".length(), none, (m, a) -> m.writeQuotient(a, 7));
        edges.argument(1, 0, 999, 0, none, (m, a) -> m.addQuotient(1, a, 4, 'd'));
        edges.argument(1, 0, 999, 1, none, (m, a) -> m.quotientDigit(1, a, 3));
        edges.argument(1, 0, 999, 0, none, (m, a) -> m.preperiod(1, a));
        edges.argument(1, 1, 999, 3, none, (m, a) -> m.period(1, a));
        edges.argument(1, 1, 999, 3, none, (m, a) -> m.periodByPowers(1, a));
        edges.argument(1, "1.(0)".length(), 999, "0.(001)".length(), none, (m, a) -> m.writeQuotient(1, a));
    }

    private void digits() {
        int[] due = {8, 7, 5, 0, 0};
        for (int position = 1; position <= due.length; position++) {
            int at = position;
            edges.answers(due[position - 1], Scenes::none, m -> m.quotientDigit(15, 8, at));
        }
        for (int[] quotient : new int[][] {{1, 7}, {9999, 983}, {998, 999}, {1, 512}, {2, 3}}) {
            String digits = digits(quotient[0], quotient[1]);
            for (int position : new int[] {1, 2, 9, 10, 982, 983, 984, 5000, 9998, 9999}) {
                edges.answers(digits.charAt(position - 1) - '0', Scenes::none,
                        m -> m.quotientDigit(quotient[0], quotient[1], position));
            }
        }
    }

    /** The first 9999 digits after the point. */
    private static String digits(int dividend, int divisor) {
        BigInteger shifted = BigInteger.valueOf(dividend % divisor).multiply(BigInteger.TEN.pow(9999));
        String digits = shifted.divide(BigInteger.valueOf(divisor)).toString();
        return "0".repeat(9999 - digits.length()) + digits;
    }

    private void recurs(int preperiod, int period, int dividend, int divisor) {
        edges.answers(preperiod, Scenes::none, m -> m.preperiod(dividend, divisor));
        edges.answers(period, Scenes::none, m -> m.period(dividend, divisor));
        edges.answers(period, Scenes::none, m -> m.periodByPowers(dividend, divisor));
    }

    private void recurring() {
        recurs(0, 1, 1, 3);
        recurs(0, 6, 1, 7);
        recurs(1, 1, 1, 6);
        recurs(1, 6, 1, 14);
        recurs(8, 1, 1, 768);
        // The longest period there is.
        recurs(0, 982, 1, 983);
        recurs(0, 982, 9999, 983);
        // The greatest remainder there is.
        recurs(0, 3, 998, 999);
        recurs(2, 60, 7, 244);
        // Not the digits of the fraction as it stands, but of the quotient.
        recurs(0, 1, 37, 111);
        recurs(0, 3, 36, 111);
        for (int divisor = 1; divisor <= 999; divisor++) {
            recursByDigits((divisor * 7 + 13) % 10000, divisor);
        }
    }

    /** Compares with the digits themselves: they recur as they should, and not earlier or more often. */
    private void recursByDigits(int dividend, int divisor) {
        String digits = digits(dividend, divisor).substring(0, 3000);
        DecimalMenagerie m = new DecimalMenagerie();
        int preperiod = m.preperiod(dividend, divisor);
        int period = m.period(dividend, divisor);
        edges.due(m.periodByPowers(dividend, divisor), period);
        edges.due(digits.startsWith(digits.substring(preperiod, 2000), preperiod + period), true);
        if (preperiod > 0) {
            edges.due(digits.charAt(preperiod - 1) != digits.charAt(preperiod - 1 + period), true);
        }
        for (int less = 1; less < period; less++) {
            if (period % less == 0) {
                edges.due(digits.startsWith(digits.substring(preperiod, 2000), preperiod + less), false);
            }
        }
    }

    private void ending() {
        recurs(0, 1, 0, 1);
        recurs(0, 1, 0, 999);
        recurs(0, 1, 9999, 1);
        recurs(0, 1, 999, 999);
        recurs(1, 1, 1, 2);
        recurs(1, 1, 1, 10);
        recurs(3, 1, 1, 8);
        recurs(2, 1, 1, 25);
        recurs(4, 1, 1, 625);
        // The longest preperiod there is.
        recurs(9, 1, 1, 512);
        recurs(0, 1, 512, 512);
        recurs(1, 1, 3, 6);
    }
}
