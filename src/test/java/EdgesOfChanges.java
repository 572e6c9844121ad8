import java.util.NoSuchElementException;

/** The sentences of the promises 1 to 9. */
final class EdgesOfChanges {
    private static final long[] STEPS = {10000, 1000, 100, 10, 1};

    private final Edges edges;

    EdgesOfChanges(Edges edges) {
        this.edges = edges;
    }

    void test() {
        edges.sentence(1, "Creates a menagerie without numbers.", this::newObject);
        addNumber();
        addQuotient();
        remove();
        feed();
        trade();
        setScale();
        setMode();
        roundTogether();
    }

    private void newObject() {
        Edges.Scene none = Scenes::none;
        edges.answers(0, none, DecimalMenagerie::count);
        edges.answers(0L, none, DecimalMenagerie::total);
        edges.answers(0L, none, DecimalMenagerie::totalByAccounts);
        edges.answers(0L, none, DecimalMenagerie::crumbs);
        edges.answers(0, none, DecimalMenagerie::escapes);
        edges.answers(true, none, DecimalMenagerie::isConsistent);
        edges.answers(0, none, m -> m.roundTogether(0));
        edges.answers(0L, none, m -> m.togetherError(0));
        edges.answers(0L, none, m -> m.togetherErrorBySets(4));
        edges.answers(0, none, m -> m.addNumber(1, 0, 0, 'd'));
        edges.answers(1, none, m -> m.append('a'));
        edges.refuses(NoSuchElementException.class, none, m -> m.value(0));
        edges.refuses(IndexOutOfBoundsException.class, none, m -> m.numberAt(0));
        edges.refuses(IndexOutOfBoundsException.class, none, m -> m.outputAt(0));
        edges.refuses(IllegalStateException.class, none, DecimalMenagerie::undo);
    }

    // ---- promise 2

    private void addNumber() {
        Edges.Scene none = Scenes::none;
        edges.sentence(2, "- `whole`: the whole part of its value, 0 to 999999", () -> {
            edges.argument(0, 0, 999999, 0, none, (m, a) -> m.addNumber(a, 0, 0, 'd'));
            edges.argument(0, 0L, 999999, 9999990000L, none, (m, a) -> m.value(m.addNumber(a, 0, 0, 'd')));
        });
        edges.sentence(2, "- `fraction`: the fraction of its value, 0 to 9999", () -> {
            edges.argument(0, 0, 9999, 0, none, (m, a) -> m.addNumber(0, a, 4, 'd'));
            edges.argument(0, 70000L, 9999, 79999L, none, (m, a) -> m.value(m.addNumber(7, a, 4, 'd')));
        });
        edges.sentence(2, "- `scale`: the scale, 0 to 4", () ->
                edges.argument(0, 0, 4, 4, none, (m, a) -> m.scale(m.addNumber(7, 0, a, 'd'))));
        edges.sentence(2, "- `mode`: the mode", () -> modeIsKept((m, a) -> m.addNumber(7, 0, 0, a)));
        edges.sentence(2, "Returns the id of the number.", () -> {
            edges.answers(4, Scenes::zoo, m -> m.addNumber(7, 0, 0, 'd'));
            edges.answers(9L, Scenes::zoo, m -> m.value(m.addNumber(0, 9, 4, 'd')));
        });
        edges.sentence(2, "Throws `IllegalArgumentException` if the whole part, the fraction or the scale is out of "
                + "range, or there is no such mode", this::addNumberArguments);
        edges.sentence(2, "Throws `IllegalStateException` if there are 6 numbers",
                () -> sixNumbers(m -> m.addNumber(7, 0, 0, 'd')));
        edges.sentence(2, "Throws `UnsupportedOperationException` if the value is not a multiple of the step of the "
                + "scale", this::addNumberSteps);
    }

    private void addNumberArguments() {
        Class<IllegalArgumentException> refusal = IllegalArgumentException.class;
        for (Edges.Scene scene : new Edges.Scene[] {Scenes::none, Scenes::zoo}) {
            edges.refuses(refusal, scene, m -> m.addNumber(-1, 0, 4, 'd'));
            edges.refuses(refusal, scene, m -> m.addNumber(1000000, 0, 4, 'd'));
            edges.refuses(refusal, scene, m -> m.addNumber(0, -1, 4, 'd'));
            edges.refuses(refusal, scene, m -> m.addNumber(0, 10000, 4, 'd'));
            edges.refuses(refusal, scene, m -> m.addNumber(0, 0, -1, 'd'));
            edges.refuses(refusal, scene, m -> m.addNumber(0, 0, 5, 'd'));
            edges.refuses(refusal, scene, m -> m.addNumber(0, 0, 0, 'x'));
            // Amounts that would be in range as a whole.
            edges.refuses(refusal, scene, m -> m.addNumber(1, -1, 4, 'd'));
            edges.refuses(refusal, scene, m -> m.addNumber(-1, 10000, 4, 'd'));
        }
        edges.modes(Scenes::zoo, (m, mode) -> m.addNumber(7, 0, 0, mode));
    }

    private void modeIsKept(Edges.CallWithMode add) {
        for (int i = 0; i < Edges.MODES.length(); i++) {
            char mode = Edges.MODES.charAt(i);
            edges.answers(mode, Scenes::none, m -> m.mode((Integer) add.on(m, mode)));
        }
        edges.refuses(IllegalArgumentException.class, Scenes::zoo, m -> add.on(m, 'x'));
    }

    private void sixNumbers(Edges.Call add) {
        DecimalMenagerie five = Scenes.zoo();
        five.addNumber(0, 0, 0, 'd');
        edges.due(add.on(five), 5);
        edges.due(Edges.answer(five, add), IllegalStateException.class);
        five.remove(0);
        edges.due(add.on(five), 6);
        edges.due(Edges.answer(five, add), IllegalStateException.class);
        edges.refuses(IllegalStateException.class, Scenes::full, add);
        edges.answers(6, () -> {
            DecimalMenagerie m = Scenes.full();
            m.remove(5);
            return m;
        }, add);
    }

    private void addNumberSteps() {
        for (int scale = 0; scale <= 4; scale++) {
            int at = scale;
            int step = (int) STEPS[scale];
            edges.answers(0, Scenes::none, m -> m.addNumber(3, 0, at, 'd'));
            edges.answers(0, Scenes::none, m -> m.addNumber(step / 10000, step % 10000, at, 'd'));
            edges.answers(0, Scenes::none, m -> m.addNumber(999999, 10000 - step, at, 'd'));
            if (step > 1) {
                for (int off : new int[] {1, step / 2, step - 1}) {
                    for (char mode : Edges.MODES.toCharArray()) {
                        edges.refuses(UnsupportedOperationException.class, Scenes::zoo,
                                m -> m.addNumber(3, off, at, mode));
                    }
                }
                edges.refuses(UnsupportedOperationException.class, Scenes::none, m -> m.addNumber(3, 10001 - step, at, 'd'));
            }
        }
    }

    // ---- promise 3

    private void addQuotient() {
        Edges.Scene none = Scenes::none;
        edges.sentence(3, "Adds a number whose value is a quotient, rounded exactly to the scale with the mode of the "
                + "number.", this::roundedQuotients);
        edges.sentence(3, "Crumbs do not change.", () -> {
            for (char mode : Edges.MODES.toCharArray()) {
                DecimalMenagerie m = Scenes.zoo();
                m.addQuotient(2, 3, 0, mode);
                m.addQuotient(1, 3, 4, mode);
                edges.due(m.crumbs(), -949L);
            }
        });
        edges.sentence(3, "- `dividend`: the dividend, 0 to 9999", () ->
                edges.argument(0, 0L, 9999, 99990000L, none, (m, a) -> m.value(m.addQuotient(a, 1, 4, 'd'))));
        edges.sentence(3, "- `divisor`: the divisor, 1 to 999", () ->
                edges.argument(1, 9990000L, 999, 10000L, none, (m, a) -> m.value(m.addQuotient(999, a, 4, 'd'))));
        edges.sentence(3, "- `scale`: the scale, 0 to 4", () -> {
            edges.argument(0, 0, 4, 4, none, (m, a) -> m.scale(m.addQuotient(2, 3, a, 'd')));
            edges.argument(0, 0L, 4, 6666L, none, (m, a) -> m.value(m.addQuotient(2, 3, a, 'd')));
        });
        edges.sentence(3, "- `mode`: the mode", () -> modeIsKept((m, a) -> m.addQuotient(7, 1, 0, a)));
        edges.sentence(3, "Returns the id of the number.", () ->
                edges.answers(4, Scenes::zoo, m -> m.addQuotient(2, 3, 0, 'd')));
        edges.sentence(3, "Throws `IllegalArgumentException` if the dividend, the divisor or the scale is out of range, "
                + "or there is no such mode", this::addQuotientArguments);
        edges.sentence(3, "Throws `IllegalStateException` if there are 6 numbers",
                () -> sixNumbers(m -> m.addQuotient(7, 3, 0, 'd')));
    }

    private void addQuotientArguments() {
        Class<IllegalArgumentException> refusal = IllegalArgumentException.class;
        for (Edges.Scene scene : new Edges.Scene[] {Scenes::none, Scenes::zoo}) {
            edges.refuses(refusal, scene, m -> m.addQuotient(-1, 1, 4, 'd'));
            edges.refuses(refusal, scene, m -> m.addQuotient(10000, 1, 4, 'd'));
            edges.refuses(refusal, scene, m -> m.addQuotient(1, 0, 4, 'd'));
            edges.refuses(refusal, scene, m -> m.addQuotient(0, 0, 4, 'd'));
            edges.refuses(refusal, scene, m -> m.addQuotient(1, -1, 4, 'd'));
            edges.refuses(refusal, scene, m -> m.addQuotient(-1, -1, 4, 'd'));
            edges.refuses(refusal, scene, m -> m.addQuotient(1, 1000, 4, 'd'));
            edges.refuses(refusal, scene, m -> m.addQuotient(1, 1, -1, 'd'));
            edges.refuses(refusal, scene, m -> m.addQuotient(1, 1, 5, 'd'));
            edges.refuses(refusal, scene, m -> m.addQuotient(1, 1, 0, 'x'));
        }
        edges.modes(Scenes::zoo, (m, mode) -> m.addQuotient(1, 1, 0, mode));
    }

    /** The values with the modes d, u, h, l and e. */
    private void quotient(int dividend, int divisor, int scale, long... due) {
        for (int i = 0; i < due.length; i++) {
            DecimalMenagerie m = new DecimalMenagerie();
            m.addQuotient(dividend, divisor, scale, Edges.MODES.charAt(i));
            edges.due(m.value(0), due[i]);
            edges.due(m.totalByAccounts(), due[i]);
        }
    }

    private void roundedQuotients() {
        quotient(0, 1, 0, 0, 0, 0, 0, 0);
        quotient(6, 3, 0, 20000, 20000, 20000, 20000, 20000);
        quotient(1, 16, 4, 625, 625, 625, 625, 625);
        // Halves of the step, above an even and an odd multiple, at each scale.
        quotient(1, 2, 0, 0, 10000, 10000, 0, 0);
        quotient(3, 2, 0, 10000, 20000, 20000, 10000, 20000);
        quotient(1, 4, 1, 2000, 3000, 3000, 2000, 2000);
        quotient(3, 4, 1, 7000, 8000, 8000, 7000, 8000);
        quotient(1, 8, 2, 1200, 1300, 1300, 1200, 1200);
        quotient(3, 8, 2, 3700, 3800, 3800, 3700, 3800);
        quotient(1, 16, 3, 620, 630, 630, 620, 620);
        quotient(3, 16, 3, 1870, 1880, 1880, 1870, 1880);
        quotient(1, 32, 4, 312, 313, 313, 312, 312);
        quotient(3, 32, 4, 937, 938, 938, 937, 938);
        // Next to halves, where four digits of the quotient would not tell.
        quotient(499, 999, 0, 0, 10000, 0, 0, 0);
        quotient(500, 999, 0, 0, 10000, 10000, 10000, 10000);
        quotient(5, 999, 2, 0, 100, 100, 100, 100);
        quotient(4, 801, 2, 0, 100, 0, 0, 0);
        quotient(1, 6, 4, 1666, 1667, 1667, 1667, 1667);
        quotient(1, 3, 4, 3333, 3334, 3333, 3333, 3333);
        quotient(2, 3, 4, 6666, 6667, 6667, 6667, 6667);
        quotient(1, 999, 0, 0, 10000, 0, 0, 0);
        quotient(998, 999, 0, 0, 10000, 10000, 10000, 10000);
        quotient(9999, 999, 4, 100090, 100091, 100090, 100090, 100090);
    }

    // ---- promise 4

    private void remove() {
        edges.sentence(4, "Removes a number.", this::removals);
        edges.sentence(4, "Returns its value in units.", () -> {
            edges.answers(133500L, Scenes::zoo, m -> m.remove(0));
            edges.answers(1L, Scenes::zoo, m -> m.remove(3));
            edges.answers(0L, () -> Scenes.units(0), m -> m.remove(0));
            edges.answers(9999999999L, () -> Scenes.units(9999999999L), m -> m.remove(0));
        });
        edges.sentence(4, "Throws `NoSuchElementException` if there is no number with this id", () -> {
            edges.numbers(DecimalMenagerie::remove);
            edges.refuses(NoSuchElementException.class, Scenes::withGap, m -> m.remove(1));
        });
    }

    /** The first, one in the middle, and the last of six go; the others stay as they were. */
    private void removals() {
        String[] each = {"0=133500/2h ", "1=75000/1d ", "2=990000/0u ", "3=1/4e ", "4=3333/4l ", "5=5000/1e "};
        long[] values = {133500, 75000, 990000, 1, 3333, 5000};
        long all = 1206834;
        for (int gone = 0; gone < each.length; gone++) {
            DecimalMenagerie m = Scenes.full();
            m.remove(gone);
            StringBuilder due = new StringBuilder();
            for (int id = 0; id < each.length; id++) {
                due.append(id == gone ? "" : each[id]);
            }
            edges.due(Checks.look(m), due + "crumbs -949 escapes 1 accounts " + (all - values[gone]));
        }
        DecimalMenagerie last = Scenes.units(7);
        last.remove(0);
        edges.due(Checks.look(last), "crumbs 0 escapes 0 accounts 0");
    }

    // ---- promise 5

    private void feed() {
        Edges.Scene five = () -> Scenes.one(5, 0, 0, 'h');
        edges.sentence(5, "the exact sum of its value and an amount is rounded to its scale with its mode and becomes "
                + "its value.", () -> {
                    edges.answers(50000L, five, m -> m.feed(0, 0, 4999));
                    edges.answers(60000L, five, m -> m.feed(0, 0, 5000));
                    edges.answers("0=60000/0h crumbs 5000 escapes 0 accounts 60000", five, m -> {
                        m.feed(0, 0, 5000);
                        return Checks.look(m);
                    });
                    // By itself, the amount would become 0, as it is next to an even multiple.
                    edges.answers(20000L, () -> Scenes.one(1, 0, 0, 'e'), m -> m.feed(0, 0, 5000));
                });
        edges.sentence(5, "- `whole`: the whole part of the amount, 0 to 999999", () ->
                edges.argument(0, 50000L, 999999, 40000L, five, (m, a) -> m.feed(0, a, 0)));
        edges.sentence(5, "- `fraction`: the fraction of the amount, 0 to 9999", () ->
                edges.argument(0, 50000L, 9999, 60000L, five, (m, a) -> m.feed(0, 0, a)));
        edges.sentence(5, "Returns the value in units after the call.", () -> {
            edges.answers(50000L, five, m -> m.feed(0, 0, 0));
            edges.answers(0L, () -> Scenes.units(9999999999L), m -> m.feed(0, 0, 1));
            edges.answers(143500L, Scenes::zoo, m -> m.feed(0, 1, 0));
        });
        edges.sentence(5, "Throws `NoSuchElementException` if there is no number with this id", () ->
                edges.numbers((m, a) -> m.feed(a, 1, 0)));
        edges.sentence(5, "Throws `IllegalArgumentException` if the whole part or the fraction is out of range",
                () -> amounts((m, whole, fraction) -> m.feed(0, whole, fraction)));
    }

    private interface CallWithAmount {
        Object on(DecimalMenagerie m, int whole, int fraction);
    }

    private void amounts(CallWithAmount call) {
        int[][] bad = {{-1, 0}, {1000000, 0}, {0, -1}, {0, 10000}, {1, -1}, {-1, 10000}, {-1, -1}, {1000000, 10000},
            {Integer.MIN_VALUE, 0}, {Integer.MAX_VALUE, 0}, {0, Integer.MIN_VALUE}, {0, Integer.MAX_VALUE}};
        for (int[] amount : bad) {
            edges.refuses(IllegalArgumentException.class, Scenes::zoo, m -> call.on(m, amount[0], amount[1]));
        }
    }

    // ---- promise 6

    private void trade() {
        Edges.Scene rich = () -> Scenes.units(9999999999L, 0);
        edges.sentence(6, "Takes an amount from one number and feeds it to another one.", this::trades);
        edges.sentence(6, "- `whole`: the whole part of the amount, 0 to 999999", () ->
                edges.argument(0, 0L, 999999, 9999990000L, rich, (m, a) -> m.trade(0, 1, a, 0)));
        edges.sentence(6, "- `fraction`: the fraction of the amount, 0 to 9999", () ->
                edges.argument(0, 0L, 9999, 9999L, rich, (m, a) -> m.trade(0, 1, 0, a)));
        edges.sentence(6, "Returns the value of the fed number in units after the call.", () -> {
            edges.answers(5L, () -> Scenes.units(7, 2), m -> m.trade(0, 1, 0, 3));
            edges.answers(0L, () -> Scenes.units(7, 9999999999L), m -> m.trade(0, 1, 0, 1));
            edges.answers(75000L, Scenes::zoo, m -> m.trade(3, 1, 0, 1));
        });
        edges.sentence(6, "Throws `NoSuchElementException` if there is no number with one of these ids", () -> {
            edges.numbers((m, a) -> m.trade(a, a == 0 ? m.count() == 6 ? 5 : 2 : 0, 0, 0));
            edges.numbers((m, a) -> m.trade(a == 0 ? m.count() == 6 ? 5 : 2 : 0, a, 0, 0));
            edges.refuses(NoSuchElementException.class, Scenes::withGap, m -> m.trade(1, 4, 0, 0));
        });
        edges.sentence(6, "Throws `IllegalArgumentException` if both ids are the same, or the whole part or the "
                + "fraction is out of range", () -> {
                    for (int id = 0; id < 4; id++) {
                        int same = id;
                        edges.refuses(IllegalArgumentException.class, Scenes::zoo, m -> m.trade(same, same, 0, 0));
                    }
                    amounts((m, whole, fraction) -> m.trade(0, 1, whole, fraction));
                });
        edges.sentence(6, "Throws `IllegalStateException` if the value of the first number is less than the amount",
                this::tooMuch);
        edges.sentence(6, "Throws `UnsupportedOperationException` if the amount is not a multiple of the step of the "
                + "scale of the first number", this::tradedSteps);
    }

    private void trades() {
        DecimalMenagerie m = Scenes.zoo();
        m.trade(0, 2, 3, 3500);
        edges.due(Checks.look(m), "0=100000/2h 1=75000/1d 2=1030000/0u 3=1/4e crumbs 5551 escapes 1 accounts 1205001");
        m.trade(2, 0, 103, 0);
        edges.due(Checks.look(m), "0=1130000/2h 1=75000/1d 2=0/0u 3=1/4e crumbs 5551 escapes 1 accounts 1205001");
        m.trade(2, 1, 0, 0);
        edges.due(Checks.look(m), "0=1130000/2h 1=75000/1d 2=0/0u 3=1/4e crumbs 5551 escapes 1 accounts 1205001");
    }

    private void tooMuch() {
        Class<IllegalStateException> refusal = IllegalStateException.class;
        edges.answers(133500L, () -> Scenes.units(133500, 0), m -> m.trade(0, 1, 13, 3500));
        edges.refuses(refusal, () -> Scenes.units(133500, 0), m -> m.trade(0, 1, 13, 3501));
        edges.answers(1L, () -> Scenes.units(1, 0), m -> m.trade(0, 1, 0, 1));
        edges.refuses(refusal, () -> Scenes.units(1, 0), m -> m.trade(0, 1, 0, 2));
        edges.answers(9L, () -> Scenes.units(0, 9), m -> m.trade(0, 1, 0, 0));
        edges.refuses(refusal, () -> Scenes.units(0, 9), m -> m.trade(0, 1, 0, 1));
        edges.answers(9999999999L, () -> Scenes.units(9999999999L, 0), m -> m.trade(0, 1, 999999, 9999));
        edges.refuses(refusal, () -> Scenes.units(9999999998L, 0), m -> m.trade(0, 1, 999999, 9999));
        edges.refuses(refusal, Scenes::zoo, m -> m.trade(0, 1, 13, 3600));
        // The value of the fed number is no limit.
        edges.answers(84000L, Scenes::zoo, m -> m.trade(0, 1, 0, 9000));
        edges.answers(143500L, Scenes::zoo, m -> m.trade(2, 0, 1, 0));
    }

    private void tradedSteps() {
        for (int scale = 0; scale <= 4; scale++) {
            int at = scale;
            int step = (int) STEPS[scale];
            Edges.Scene scene = () -> {
                DecimalMenagerie m = Scenes.one(5, 0, at, 'u');
                m.addNumber(5, 0, 4, 'd');
                return m;
            };
            edges.answers(50000L + step, scene, m -> m.trade(0, 1, step / 10000, step % 10000));
            edges.answers(70000L - step, scene, m -> m.trade(0, 1, 1, 10000 - step));
            if (step > 1) {
                for (int off : new int[] {1, step / 2, step - 1, 10001 - step}) {
                    edges.refuses(UnsupportedOperationException.class, scene, m -> m.trade(0, 1, 1, off));
                }
            }
            // The scale of the fed number does not matter.
            edges.answers(50000L + step, scene, m -> m.trade(1, 0, 0, 1));
        }
    }

    // ---- promise 7

    private void setScale() {
        edges.sentence(7, "Its value is rounded to the new scale with its mode.", () -> {
            long[][] due = {{120000, 130000, 120000, 120000, 120000}, {123000, 124000, 123000, 123000, 123000},
                {123400, 123500, 123500, 123400, 123400}, {123450, 123450, 123450, 123450, 123450}};
            for (int scale = 0; scale <= 3; scale++) {
                for (int i = 0; i < 5; i++) {
                    DecimalMenagerie m = Scenes.one(12, 3450, 4, Edges.MODES.charAt(i));
                    m.setScale(0, scale);
                    edges.due(m.value(0), due[scale][i]);
                    edges.due(m.crumbs(), due[scale][i] - 123450);
                    edges.due(m.scale(0), scale);
                    m.setScale(0, 4);
                    edges.due(m.value(0), due[scale][i]);
                }
            }
        });
        edges.sentence(7, "- `scale`: the new scale, 0 to 4", () -> {
            edges.argument(0, 2, 4, 2, Scenes::zoo, (m, a) -> m.setScale(0, a));
            edges.argument(0, 0, 4, 4, Scenes::zoo, (m, a) -> {
                m.setScale(0, a);
                return m.scale(0);
            });
        });
        edges.sentence(7, "Returns the previous scale.", () -> {
            DecimalMenagerie m = Scenes.one(0, 0, 0, 'd');
            int[] scales = {4, 3, 2, 1, 0, 0, 4, 4};
            int previous = 0;
            for (int scale : scales) {
                edges.due(m.setScale(0, scale), previous);
                previous = scale;
            }
        });
        edges.sentence(7, "Throws `NoSuchElementException` if there is no number with this id", () ->
                edges.numbers((m, a) -> m.setScale(a, 2)));
        edges.sentence(7, "Throws `IllegalArgumentException` if the scale is out of range", () -> {
            for (int bad : new int[] {-1, 5, Integer.MIN_VALUE, Integer.MAX_VALUE}) {
                edges.refuses(IllegalArgumentException.class, Scenes::zoo, m -> m.setScale(3, bad));
            }
        });
    }

    // ---- promise 8

    private void setMode() {
        edges.sentence(8, "Sets the mode of a number.", () -> {
            for (char mode : Edges.MODES.toCharArray()) {
                DecimalMenagerie m = Scenes.zoo();
                m.setMode(2, mode);
                edges.due(Checks.look(m), Scenes.ZOO.replace("0u", "0" + mode));
            }
        });
        edges.sentence(8, "Returns the previous mode.", () -> {
            DecimalMenagerie m = Scenes.one(0, 0, 0, 'd');
            char previous = 'd';
            for (char mode : "duhleedd".toCharArray()) {
                edges.due(m.setMode(0, mode), previous);
                previous = mode;
            }
        });
        edges.sentence(8, "Throws `NoSuchElementException` if there is no number with this id", () ->
                edges.numbers((m, a) -> m.setMode(a, 'u')));
        edges.sentence(8, "Throws `IllegalArgumentException` if there is no such mode", () ->
                edges.modes(Scenes::zoo, (m, mode) -> m.setMode(0, mode)));
    }

    // ---- promise 9

    private void roundTogether() {
        edges.sentence(9, "The scale of each number whose scale is greater becomes the given one.", () -> {
            for (int given = 0; given <= 4; given++) {
                DecimalMenagerie m = new DecimalMenagerie();
                for (int scale = 0; scale <= 4; scale++) {
                    m.addNumber(1, 0, scale, 'd');
                }
                m.roundTogether(given);
                for (int scale = 0; scale <= 4; scale++) {
                    edges.due(m.scale(scale), Math.min(scale, given));
                }
            }
        });
        edges.sentence(9, "Each rounded value counts for the crumbs.", () -> {
            crumbs(-4999, 4999);
            crumbs(5000, 5000);
            crumbs(0, 4000, 6000);
            crumbs(0, 10000, 0);
            crumbs(-6, 1, 1, 1, 1, 1, 1);
            crumbs(6, 9999, 9999, 9999, 9999, 9999, 9999);
            // Rounded up to 1000000, before the carry escapes.
            crumbs(1, 9999999999L);
        });
        edges.sentence(9, "- `scale`: the scale, 0 to 4", () ->
                edges.argument(0, 1, 4, 0, () -> Scenes.units(9999), DecimalMenagerie::roundTogether));
        edges.sentence(9, "Returns the number of numbers that are rounded up.", () -> {
            edges.answers(0, Scenes::none, m -> m.roundTogether(0));
            edges.answers(0, () -> Scenes.units(10000, 20000, 0), m -> m.roundTogether(0));
            edges.answers(0, () -> Scenes.units(1, 1, 1, 1, 1, 1), m -> m.roundTogether(0));
            edges.answers(1, () -> Scenes.units(1, 1, 1, 1, 1, 4995), m -> m.roundTogether(0));
            edges.answers(3, () -> Scenes.units(5000, 5000, 5000, 5000, 5000, 5000), m -> m.roundTogether(0));
            edges.answers(6, () -> Scenes.units(9999, 9999, 9999, 9999, 9999, 9999), m -> m.roundTogether(0));
        });
        edges.sentence(9, "Throws `IllegalArgumentException` if the scale is out of range", () -> {
            for (int bad : new int[] {-1, 5, Integer.MIN_VALUE, Integer.MAX_VALUE}) {
                for (Edges.Scene scene : new Edges.Scene[] {Scenes::none, Scenes::zoo, Scenes::full}) {
                    edges.refuses(IllegalArgumentException.class, scene, m -> m.roundTogether(bad));
                }
            }
        });
    }

    private void crumbs(long due, long... values) {
        DecimalMenagerie m = Scenes.units(values);
        m.roundTogether(0);
        edges.due(m.crumbs(), due);
        edges.due(m.totalByAccounts(), m.total());
    }
}
