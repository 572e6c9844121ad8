import java.util.NoSuchElementException;

/** The sentences on exceptions in the terms, for all methods. */
final class EdgesOfExceptions {
    private static final int TERMS = Edges.TERMS;
    private static final Class<? extends RuntimeException> NONE = NoSuchElementException.class;
    private static final Class<? extends RuntimeException> ARGUMENT = IllegalArgumentException.class;
    private static final Class<? extends RuntimeException> STATE = IllegalStateException.class;
    private static final Class<? extends RuntimeException> STEP = UnsupportedOperationException.class;
    private static final Class<? extends RuntimeException> INDEX = IndexOutOfBoundsException.class;

    private final Edges edges;

    EdgesOfExceptions(Edges edges) {
        this.edges = edges;
    }

    void test() {
        edges.sentence(TERMS, "If a call throws an exception, nothing changes, except that run empties the text buffer and "
                + "stores the error position or the failed command.", () -> {
                    refusals();
                    runs();
                });
        edges.sentence(TERMS, "If several conditions of a method apply, the exception that is listed first is thrown.", () -> {
            orderOfChanges();
            orderOfQueries();
        });
        edges.sentence(TERMS, "All divisions of integers are rounded down.", this::divisions);
    }

    /** In a menagerie where calls can be undone and one where the oldest of the eight must not be pushed out. */
    private void refused(Class<? extends RuntimeException> due, Edges.Call call) {
        edges.refuses(due, Scenes::zoo, call);
        edges.refuses(due, Scenes::young, call);
    }

    private void refusals() {
        refused(ARGUMENT, m -> m.addNumber(0, 10000, 4, 'd'));
        refused(STEP, m -> m.addNumber(0, 1, 3, 'd'));
        refused(ARGUMENT, m -> m.addQuotient(1, 1000, 4, 'd'));
        refused(NONE, m -> m.remove(4));
        refused(NONE, m -> m.feed(4, 0, 0));
        refused(ARGUMENT, m -> m.feed(1, 0, 10000));
        refused(NONE, m -> m.trade(0, 4, 1, 0));
        refused(ARGUMENT, m -> m.trade(0, 0, 1, 0));
        refused(STATE, m -> m.trade(0, 1, 14, 0));
        refused(STEP, m -> m.trade(1, 0, 1, 1));
        refused(NONE, m -> m.setScale(4, 0));
        refused(ARGUMENT, m -> m.setScale(0, 5));
        refused(NONE, m -> m.setMode(4, 'd'));
        refused(ARGUMENT, m -> m.setMode(0, 'x'));
        refused(ARGUMENT, m -> m.roundTogether(5));
        refused(INDEX, m -> m.numberAt(4));
        refused(NONE, m -> m.value(4));
        refused(NONE, m -> m.scale(4));
        refused(NONE, m -> m.mode(4));
        refused(NONE, m -> m.digit(4, 0));
        refused(INDEX, m -> m.digit(0, 6));
        refused(NONE, m -> m.digitSum(4));
        refused(INDEX, m -> m.numberAtRank(4));
        refused(NONE, m -> m.rounded(4, 0, 'd'));
        refused(ARGUMENT, m -> m.rounded(0, 5, 'd'));
        refused(NONE, m -> m.part(4, 1, 0));
        refused(ARGUMENT, m -> m.part(0, 10, 0));
        refused(INDEX, m -> m.part(0, 9, 9));
        refused(NONE, m -> m.carries(4, 0, 0));
        refused(ARGUMENT, m -> m.carries(0, 0, 10000));
        refused(NONE, m -> m.carriesBySums(4, 0, 0));
        refused(ARGUMENT, m -> m.carriesBySums(0, 0, 10000));
        refused(NONE, m -> m.longestCarry(4, 0, 0));
        refused(ARGUMENT, m -> m.longestCarry(0, 0, 10000));
        refused(ARGUMENT, m -> m.togetherError(5));
        refused(ARGUMENT, m -> m.togetherErrorBySets(5));
        refused(NONE, m -> m.goesUp(4, 0));
        refused(ARGUMENT, m -> m.goesUp(0, 5));
        refused(ARGUMENT, m -> m.quotientDigit(10000, 1, 1));
        refused(INDEX, m -> m.quotientDigit(1, 7, 10000));
        refused(ARGUMENT, m -> m.preperiod(1, 0));
        refused(ARGUMENT, m -> m.period(1, 0));
        refused(ARGUMENT, m -> m.periodByPowers(1, 0));
        refused(NONE, m -> m.share(4));
        refused(NONE, m -> m.writeNumber(4));
        refused(ARGUMENT, m -> m.writeQuotient(1, 0));
        refused(INDEX, m -> m.outputAt(6));
        edges.refuses(ArithmeticException.class, Scenes::none, DecimalMenagerie::meanValue);
        edges.refuses(ArithmeticException.class, () -> Scenes.units(0, 0), m -> m.share(0));
        edges.refuses(NONE, () -> Scenes.units(0, 0), DecimalMenagerie::errorPosition);
        edges.refuses(NONE, () -> Scenes.units(0, 0), DecimalMenagerie::failedCommand);
        edges.refuses(STATE, Scenes::none, DecimalMenagerie::undo);
        edges.refuses(STATE, () -> Scenes.units(0, 0), m -> {
            m.restore();
            return null;
        });
        edges.refuses(STATE, Scenes::full, m -> m.addNumber(1, 0, 0, 'd'));
        edges.refuses(STATE, Scenes::full, m -> m.addQuotient(1, 3, 0, 'd'));
    }

    /** Besides the buffer, the error position and the failed command, each of which is looked at by itself. */
    private void runs() {
        for (Edges.Scene scene : new Edges.Scene[] {Scenes::zoo, Scenes::young}) {
            DecimalMenagerie m = scene.make();
            String before = Checks.look(m);
            // The scene has left "mode 0 " in the buffer.
            edges.due(Edges.answer(m, DecimalMenagerie::run), ARGUMENT);
            edges.due(Story.stored(m), "error 7 failed " + Scenes.FAILED_BEFORE);
            edges.due(Scenes.run(m, "feed 0 5;remove 0"), ARGUMENT);
            edges.due(Story.stored(m), "error 9 failed " + Scenes.FAILED_BEFORE);
            edges.due(Scenes.run(m, "feed 0 5;free 1;add 7 0 u;together 0;free 1"), STEP);
            edges.due(Story.stored(m), "error 9 failed 4");
            edges.due(Checks.look(m), before);
            edges.due(Story.line(m), "0.1(6)");
            edges.due(m.append('x'), 1);
            // Nothing of it can be undone, and nothing is saved instead of what was.
            edges.due(m.undo(), scene.make().undo());
            m.restore();
            DecimalMenagerie other = scene.make();
            other.restore();
            edges.due(Checks.look(m), Checks.look(other));
        }
    }

    // ---- the order of exceptions

    private void first(Class<? extends RuntimeException> due, Edges.Scene scene, Edges.Call call) {
        edges.refuses(due, scene, call);
    }

    private void orderOfChanges() {
        for (Edges.Scene scene : new Edges.Scene[] {Scenes::zoo, Scenes::full}) {
            first(ARGUMENT, scene, m -> m.addNumber(-1, 1, 0, 'd'));
            first(ARGUMENT, scene, m -> m.addNumber(1000000, 1, 0, 'd'));
            first(ARGUMENT, scene, m -> m.addNumber(0, -1, 0, 'd'));
            first(ARGUMENT, scene, m -> m.addNumber(0, 10000, 0, 'd'));
            first(ARGUMENT, scene, m -> m.addNumber(0, 10001, 0, 'd'));
            first(ARGUMENT, scene, m -> m.addNumber(0, 1, -1, 'd'));
            first(ARGUMENT, scene, m -> m.addNumber(0, 1, 5, 'd'));
            first(ARGUMENT, scene, m -> m.addNumber(0, 1, 0, 'x'));
            first(ARGUMENT, scene, m -> m.addQuotient(-1, 1, 0, 'd'));
            first(ARGUMENT, scene, m -> m.addQuotient(1, 0, 0, 'd'));
            first(ARGUMENT, scene, m -> m.addQuotient(1, 1, 5, 'd'));
            first(ARGUMENT, scene, m -> m.addQuotient(1, 1, 0, 'x'));
        }
        first(STATE, Scenes::full, m -> m.addNumber(0, 1, 0, 'd'));
        first(STEP, Scenes::zoo, m -> m.addNumber(0, 1, 0, 'd'));
        first(NONE, Scenes::zoo, m -> m.feed(4, -1, 0));
        first(NONE, Scenes::zoo, m -> m.feed(-1, 0, 10000));
        first(NONE, Scenes::zoo, m -> m.trade(4, 4, 0, 0));
        first(NONE, Scenes::zoo, m -> m.trade(4, 0, -1, 0));
        first(NONE, Scenes::zoo, m -> m.trade(0, 4, 0, 10000));
        first(NONE, Scenes::zoo, m -> m.trade(0, 4, 999999, 0));
        first(NONE, Scenes::zoo, m -> m.trade(2, 4, 0, 1));
        first(ARGUMENT, Scenes::zoo, m -> m.trade(0, 0, 999999, 0));
        first(ARGUMENT, Scenes::zoo, m -> m.trade(2, 2, 0, 1));
        first(ARGUMENT, Scenes::zoo, m -> m.trade(0, 1, 1000000, 0));
        first(ARGUMENT, Scenes::zoo, m -> m.trade(0, 1, 0, 10001));
        first(ARGUMENT, Scenes::zoo, m -> m.trade(0, 1, 999999, -1));
        first(STATE, Scenes::zoo, m -> m.trade(2, 1, 99, 1));
        first(STEP, Scenes::zoo, m -> m.trade(2, 1, 98, 9999));
        first(NONE, Scenes::zoo, m -> m.setScale(4, 5));
        first(NONE, Scenes::zoo, m -> m.setMode(4, 'x'));
        // A text that is no program throws as such, whether its commands would fail or not.
        edges.answers(ARGUMENT, Scenes::none, m -> Scenes.run(m, "free 0;x"));
        edges.answers("error 7 failed " + NONE, Scenes::none, m -> {
            Scenes.run(m, "free 0;x");
            return Story.stored(m);
        });
    }

    private void orderOfQueries() {
        first(NONE, Scenes::zoo, m -> m.digit(4, 6));
        first(NONE, Scenes::zoo, m -> m.rounded(4, 5, 'd'));
        first(NONE, Scenes::zoo, m -> m.rounded(4, 0, 'x'));
        first(NONE, Scenes::zoo, m -> m.part(4, 0, 0));
        first(NONE, Scenes::zoo, m -> m.part(4, 1, 1));
        first(ARGUMENT, Scenes::zoo, m -> m.part(0, 0, 0));
        first(ARGUMENT, Scenes::zoo, m -> m.part(0, 10, -1));
        first(ARGUMENT, Scenes::zoo, m -> m.part(0, 10, 10));
        first(NONE, Scenes::zoo, m -> m.carries(4, -1, 0));
        first(NONE, Scenes::zoo, m -> m.carriesBySums(4, 0, 10000));
        first(NONE, Scenes::zoo, m -> m.longestCarry(4, 1000000, 0));
        first(NONE, Scenes::zoo, m -> m.goesUp(4, 5));
        first(ARGUMENT, Scenes::zoo, m -> m.quotientDigit(10000, 1, 0));
        first(ARGUMENT, Scenes::zoo, m -> m.quotientDigit(1, 0, 10000));
        first(NONE, Scenes::none, m -> m.share(0));
        first(NONE, () -> Scenes.units(0, 0), m -> m.share(2));
    }

    // ---- divisions

    private void divisions() {
        edges.answers(6, Scenes::none, m -> m.quotientDigit(2, 3, 9999));
        edges.answers("1.998(0)", Scenes::none, m -> {
            m.writeQuotient(999, 500);
            return Story.line(m);
        });
        edges.answers(1L, () -> Scenes.units(11), m -> m.part(0, 9, 8));
        edges.answers(2L, () -> Scenes.units(11), m -> m.part(0, 9, 1));
        edges.answers(9, () -> Scenes.units(99999), m -> m.digit(0, 0));
    }
}
