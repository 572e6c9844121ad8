import java.util.NoSuchElementException;
import java.util.function.Consumer;

/** Promises 44 to 46: undo and snapshot. */
final class UndoTest {
    private static final Checks CHECKS = new Checks("UndoTest");

    private UndoTest() {
    }

    public static void main(String[] args) {
        promise44EachChange();
        promise44AtMostEight();
        promise44NextId();
        promise44NotOfRefusedCalls();
        promise44NotOfQueries();
        promise45Save();
        promise46Restore();
        CHECKS.end();
    }

    private static DecimalMenagerie two() {
        DecimalMenagerie m = new DecimalMenagerie();
        m.addNumber(999999, 9999, 4, 'u');
        m.addNumber(7, 5000, 1, 'd');
        return m;
    }

    private static void undone(String what, Consumer<DecimalMenagerie> change) {
        DecimalMenagerie m = two();
        String before = Checks.look(m);
        change.accept(m);
        CHECKS.due("undo of " + what, m.undo(), 2);
        CHECKS.due("all after undo of " + what, Checks.look(m), before);
        CHECKS.due("next id after undo of " + what, m.addNumber(0, 0, 0, 'd'), 2);
    }

    private static void promise44EachChange() {
        undone("addNumber", m -> m.addNumber(1, 0, 0, 'd'));
        undone("addQuotient", m -> m.addQuotient(1, 3, 0, 'd'));
        undone("remove", m -> m.remove(0));
        undone("feed", m -> m.feed(0, 5, 5));
        undone("feed with nothing", m -> m.feed(0, 0, 0));
        undone("trade", m -> m.trade(1, 0, 7, 0));
        undone("setScale", m -> m.setScale(0, 0));
        undone("setScale to the same", m -> m.setScale(0, 4));
        undone("setMode", m -> m.setMode(0, 'd'));
        undone("setMode to the same", m -> m.setMode(0, 'u'));
        undone("roundTogether", m -> m.roundTogether(0));
        undone("roundTogether of nothing", m -> m.roundTogether(4));
        undone("run", m -> {
            Checks.append(m, "free 0;add 1 0 d;feed 1 5.25;together 0");
            m.run();
        });
    }

    private static void promise44AtMostEight() {
        DecimalMenagerie m = new DecimalMenagerie();
        CHECKS.refused("undo of nothing", IllegalStateException.class, m::undo);
        m.addNumber(0, 0, 0, 'd');
        for (int i = 1; i <= 20; i++) {
            m.feed(0, 1, 0);
        }
        for (int left = 7; left >= 0; left--) {
            CHECKS.due("undo", m.undo(), left);
            CHECKS.due("value", m.value(0), 120000L + left * 10000L);
        }
        CHECKS.refused("ninth undo", IllegalStateException.class, m::undo);
        CHECKS.due("value", m.value(0), 120000L);
        m.feed(0, 2, 0);
        m.feed(0, 2, 0);
        CHECKS.due("undo", m.undo(), 1);
        m.feed(0, 3, 0);
        CHECKS.due("value", m.value(0), 170000L);
        CHECKS.due("undo", m.undo(), 1);
        CHECKS.due("value", m.value(0), 140000L);
        CHECKS.due("undo", m.undo(), 0);
        CHECKS.due("value", m.value(0), 120000L);
        CHECKS.refused("undo of no more", IllegalStateException.class, m::undo);
    }

    private static void promise44NextId() {
        DecimalMenagerie m = new DecimalMenagerie();
        m.addNumber(1, 0, 0, 'd');
        m.addNumber(2, 0, 0, 'd');
        m.undo();
        CHECKS.due("an undone id is given again", m.addNumber(3, 0, 0, 'd'), 1);
        CHECKS.due("value", m.value(1), 30000L);
    }

    private static void promise44NotOfRefusedCalls() {
        DecimalMenagerie m = two();
        for (int i = 0; i < 12; i++) {
            CHECKS.refused("addNumber", IllegalArgumentException.class, () -> m.addNumber(-1, 0, 0, 'd'));
            CHECKS.refused("addQuotient", IllegalArgumentException.class, () -> m.addQuotient(-1, 0, 0, 'd'));
            CHECKS.refused("remove", NoSuchElementException.class, () -> m.remove(9));
            CHECKS.refused("feed", NoSuchElementException.class, () -> m.feed(9, 0, 0));
            CHECKS.refused("trade", NoSuchElementException.class, () -> m.trade(9, 0, 0, 0));
            CHECKS.refused("setScale", IllegalArgumentException.class, () -> m.setScale(0, 9));
            CHECKS.refused("setMode", IllegalArgumentException.class, () -> m.setMode(0, 'x'));
            CHECKS.refused("roundTogether", IllegalArgumentException.class, () -> m.roundTogether(9));
            CHECKS.refused("run", IllegalArgumentException.class, m::run);
            Checks.append(m, "free 0;free 0");
            CHECKS.refused("run", UnsupportedOperationException.class, m::run);
        }
        CHECKS.due("undo", m.undo(), 1);
        CHECKS.due("all", Checks.look(m), "0=9999999999/4u crumbs 0 escapes 0 accounts 9999999999");
        CHECKS.due("undo", m.undo(), 0);
        // A refused call must not use up the oldest of the eight either.
        DecimalMenagerie full = two();
        for (int i = 0; i < 8; i++) {
            full.feed(1, 1, 0);
        }
        CHECKS.refused("feed", IllegalArgumentException.class, () -> full.feed(1, -1, 0));
        for (int left = 7; left >= 0; left--) {
            CHECKS.due("undo", full.undo(), left);
        }
        CHECKS.due("value", full.value(1), 75000L);
    }

    private static void promise44NotOfQueries() {
        DecimalMenagerie m = two();
        m.count();
        m.rounded(0, 0, 'u');
        m.togetherError(0);
        m.writeNumber(0);
        m.append('a');
        m.save();
        CHECKS.due("undo", m.undo(), 1);
        CHECKS.due("count", m.count(), 1);
    }

    private static void promise45Save() {
        DecimalMenagerie m = two();
        m.save();
        m.feed(0, 0, 1);
        String fed = Checks.look(m);
        m.save();
        m.remove(0);
        CHECKS.due("saving leaves undo alone", m.undo(), 3);
        m.remove(1);
        m.restore();
        CHECKS.due("the second save replaces the first", Checks.look(m), fed);
        m.remove(0);
        m.save();
        m.undo();
        CHECKS.due("undo leaves what is saved alone", m.count(), 2);
        m.restore();
        CHECKS.due("count", m.count(), 1);
    }

    private static void promise46Restore() {
        DecimalMenagerie m = new DecimalMenagerie();
        CHECKS.refused("restore of nothing", IllegalStateException.class, m::restore);
        m.addNumber(5, 5000, 1, 'h');
        CHECKS.refusedUnchanged("restore of nothing", IllegalStateException.class, m, m::restore);
        CHECKS.due("undo after a refused restore", m.undo(), 0);
        m.addNumber(5, 5000, 1, 'h');
        m.save();
        String saved = Checks.look(m);
        for (int i = 0; i < 3; i++) {
            m.feed(0, 999999, 500);
            m.setMode(0, 'd');
            m.addNumber(1, 0, 0, 'd');
            m.restore();
            CHECKS.due("all", Checks.look(m), saved);
            CHECKS.refused("undo after restore", IllegalStateException.class, m::undo);
            CHECKS.due("next id", m.addNumber(1, 0, 0, 'd'), 1);
            CHECKS.due("undo", m.undo(), 0);
        }
        DecimalMenagerie empty = new DecimalMenagerie();
        empty.save();
        empty.addNumber(1, 0, 0, 'd');
        empty.restore();
        CHECKS.due("an empty state can be saved", empty.count(), 0);
    }
}
