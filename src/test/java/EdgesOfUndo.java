import java.util.ArrayDeque;
import java.util.Deque;

/** The sentences on undo in the terms, and those of the promises 44 to 46. */
final class EdgesOfUndo {
    private static final int TERMS = Edges.TERMS;
    private static final int MOST_UNDOS = 8;
    private static final Class<IllegalStateException> REFUSED = IllegalStateException.class;

    /** Changes of the scene young, each of another kind or way; some leave nothing different. */
    private static final Edges.Call[] CHANGES = {
        m -> m.addNumber(1, 0, 0, 'd'),
        m -> m.addQuotient(1, 3, 0, 'u'),
        m -> m.remove(0),
        m -> m.remove(1),
        m -> m.feed(0, 5, 5),
        m -> m.feed(1, 0, 4999),
        m -> m.feed(1, 0, 5000),
        m -> m.feed(0, 0, 0),
        m -> m.trade(0, 1, 1, 1),
        m -> m.trade(1, 0, 999999, 5000),
        m -> m.trade(1, 0, 0, 0),
        m -> m.setScale(0, 0),
        m -> m.setScale(1, 0),
        m -> m.setScale(0, 4),
        m -> m.setMode(0, 'u'),
        m -> m.setMode(0, 'h'),
        m -> m.roundTogether(0),
        m -> m.roundTogether(4),
        m -> Scenes.run(m, "free 0;add 1 0 d;feed 1 5.25;together 0"),
        m -> Scenes.run(m, "mode 0 h"),
    };

    private static final Edges.Call UNDO = EdgesOfUndo::undone;
    private static final Edges.Call SAVE = EdgesOfUndo::saved;
    private static final Edges.Call RESTORE = EdgesOfUndo::restored;

    private final Edges edges;

    EdgesOfUndo(Edges edges) {
        this.edges = edges;
    }

    void test() {
        edges.sentence(TERMS, "The changing methods are addNumber, addQuotient, remove, feed, trade, setScale, setMode, "
                + "roundTogether and run.", this::changingMethods);
        edges.sentence(TERMS, "Each successful call of them can be undone, also if nothing is different after it; at most "
                + "the 8 most recent ones, the most recent one first.", this::eightMostRecent);
        edges.sentence(TERMS, "Undo, save and restore concern the whole state, including the next id, except the text "
                + "buffer, the error position, the failed command and the output line.", this::wholeState);
        undo();
        save();
        restore();
    }

    /** With an empty buffer, so that a change can be a program. */
    private static DecimalMenagerie young() {
        DecimalMenagerie m = Scenes.young();
        Edges.answer(m, DecimalMenagerie::run);
        return m;
    }

    private static Object undone(DecimalMenagerie m) {
        return Edges.answer(m, DecimalMenagerie::undo);
    }

    private static Object restored(DecimalMenagerie m) {
        return Edges.answer(m, x -> {
            x.restore();
            return "restored";
        });
    }

    private static Object saved(DecimalMenagerie m) {
        m.save();
        return "saved";
    }

    /** The calls one after another as one. */
    private static Edges.Call all(Edges.Call... calls) {
        return m -> {
            Object last = null;
            for (Edges.Call call : calls) {
                last = call.on(m);
            }
            return last;
        };
    }

    // ---- what can be undone

    private void changingMethods() {
        for (Edges.Call change : CHANGES) {
            edges.answers(3, EdgesOfUndo::young, all(change, UNDO));
        }
        Edges.Call[] queries = {
            DecimalMenagerie::count, m -> m.numberAt(0), m -> m.value(0), m -> m.scale(0), m -> m.mode(0),
            m -> m.digit(0, 1), m -> m.digitSum(0), m -> m.numberAtRank(0), m -> m.rounded(0, 0, 'u'),
            m -> m.part(0, 7, 3), m -> m.carries(0, 999999, 9999), m -> m.carriesBySums(0, 999999, 9999),
            m -> m.longestCarry(0, 999999, 9999), m -> m.togetherError(0), m -> m.togetherErrorBySets(0),
            m -> m.goesUp(0, 0), m -> m.quotientDigit(1, 7, 9999), m -> m.preperiod(1, 6), m -> m.period(1, 7),
            m -> m.periodByPowers(1, 7), DecimalMenagerie::total, DecimalMenagerie::totalByAccounts,
            DecimalMenagerie::escapes, DecimalMenagerie::crumbs, DecimalMenagerie::meanValue, m -> m.share(0),
            DecimalMenagerie::isConsistent, DecimalMenagerie::errorPosition, DecimalMenagerie::failedCommand,
            m -> m.outputAt(0),
        };
        for (Edges.Call query : queries) {
            edges.keepsAll(Scenes::zoo, query);
            edges.keepsAll(Scenes::young, query);
        }
        edges.answers(2, Scenes::young, all(m -> m.append('u'), UNDO));
        edges.answers(2, Scenes::young, all(m -> m.writeNumber(0), UNDO));
        edges.answers(2, Scenes::young, all(m -> m.writeQuotient(1, 7), UNDO));
        edges.answers(2, Scenes::young, all(SAVE, UNDO));
        // No call that is refused, and no program that fails.
        edges.answers(2, EdgesOfUndo::young, all(m -> Scenes.run(m, "mode 0 u;free 9"), UNDO));
        edges.answers(2, EdgesOfUndo::young, all(m -> Scenes.run(m, "mode 0 u;x"), UNDO));
    }

    private void eightMostRecent() {
        for (int calls = 0; calls <= 20; calls++) {
            DecimalMenagerie m = new DecimalMenagerie();
            for (int call = 0; call < calls; call++) {
                if (call == 0) {
                    m.addNumber(0, 0, 0, 'd');
                } else {
                    m.feed(0, 1, 0);
                }
            }
            int most = Math.min(calls, MOST_UNDOS);
            for (int undo = 1; undo <= most; undo++) {
                edges.due(undone(m), most - undo);
                edges.due(m.total(), Math.max(calls - undo - 1, 0) * 10000L);
            }
            String before = Checks.look(m);
            edges.due(undone(m), REFUSED);
            edges.due(Checks.look(m), before);
        }
        // Nothing is different after any of these, but each is a call to undo.
        Edges.Call[] same = {m -> m.setMode(0, 'h'), m -> m.setScale(0, 4), m -> m.feed(0, 0, 0), m -> m.trade(0, 1, 0, 0),
            m -> m.roundTogether(4), m -> Scenes.run(m, "mode 0 h")};
        for (Edges.Call change : same) {
            edges.answers(4, EdgesOfUndo::young, all(change, change, UNDO));
            DecimalMenagerie m = young();
            String before = Checks.look(m);
            for (int call = 0; call < MOST_UNDOS; call++) {
                change.on(m);
                edges.due(Checks.look(m), before);
            }
            for (int left = MOST_UNDOS - 1; left >= 0; left--) {
                edges.due(undone(m), left);
                edges.due(Checks.look(m), before);
            }
            edges.due(undone(m), REFUSED);
        }
        edges.answers(0, Scenes::none, all(m -> m.roundTogether(0), UNDO));
    }

    private void wholeState() {
        for (Edges.Call change : CHANGES) {
            edges.same(EdgesOfUndo::young, all(change, UNDO), m -> null);
            edges.same(EdgesOfUndo::young, all(SAVE, change, RESTORE),
                    all(SAVE, RESTORE));
        }
        // The id is given once more.
        edges.answers(3, EdgesOfUndo::young, all(EdgesOfUndo::addOne, EdgesOfUndo::addOne));
        edges.answers(2, EdgesOfUndo::young, all(EdgesOfUndo::addOne, UNDO, EdgesOfUndo::addOne));
        edges.answers(2, EdgesOfUndo::young, all(EdgesOfUndo::addOne, RESTORE, EdgesOfUndo::addOne));
        for (Edges.Call call : new Edges.Call[] {UNDO, SAVE, RESTORE}) {
            DecimalMenagerie m = Scenes.zoo();
            m.setMode(0, 'u');
            String stored = Story.stored(m);
            call.on(m);
            edges.due(Story.stored(m), stored);
            edges.due(Story.line(m), "0.1(6)");
            edges.due(m.append('e'), "mode 0 e".length());
            edges.due(m.run(), 1);
            edges.due(m.mode(0), 'e');
            edges.due(Story.stored(m), stored);
            changedSince(call);
        }
    }

    /** What was written, stored and appended after the state was saved and changed stays. */
    private void changedSince(Edges.Call call) {
        DecimalMenagerie m = Scenes.units(5);
        m.save();
        m.feed(0, 1, 0);
        Scenes.run(m, "together x");
        Scenes.run(m, "mode 0 d;mode 0 d;free 1");
        m.writeNumber(0);
        m.append('t');
        call.on(m);
        edges.due(Story.stored(m), "error 9 failed 2");
        edges.due(Story.line(m), "0:1.0005d");
        edges.due(m.append('o'), 2);
    }

    // ---- promise 44

    private void undo() {
        edges.sentence(44, "Undoes the most recent changing call that has not been undone.", () -> {
            for (String calls : new String[] {"u", "fuu", "ffuuu", "fufuu", "fuuf", "ffffffffuuuuuuuuu",
                "fffffffffuuuuuuuuu", "ffffffffuuufffffuuuuuuuuu", "fffffffffffufufuuuuuuuuu",
                "ffffffffuuuuuuuuuffffffffffuuuuuuuuu", "fffffffffffffffffffffffuuuuffuuffffffuuuuuuuuu",
                "uufuufffffffufffuffffuuuuuuuuu"}) {
                feedsAndUndos(calls);
            }
            // What was undone is gone; there is no way back to it.
            edges.answers(40000L, () -> Scenes.units(0), m -> {
                m.feed(0, 1, 0);
                m.feed(0, 2, 0);
                m.undo();
                m.feed(0, 3, 0);
                edges.due(m.undo(), 2);
                edges.due(m.value(0), 10000L);
                return m.feed(0, 3, 0);
            });
        });
        edges.sentence(44, "Returns the number of calls that can still be undone.", () -> {
            edges.answers(0, () -> Scenes.units(5), DecimalMenagerie::undo);
            edges.answers(5, () -> Scenes.units(5, 5, 5, 5, 5, 5), DecimalMenagerie::undo);
            edges.answers(7, Scenes::zoo, DecimalMenagerie::undo);
            edges.answers(2, Scenes::young, DecimalMenagerie::undo);
        });
        edges.sentence(44, "Throws `IllegalStateException` if no call can be undone", () -> {
            edges.refuses(REFUSED, Scenes::none, DecimalMenagerie::undo);
            edges.refuses(REFUSED, () -> {
                DecimalMenagerie m = Scenes.zoo();
                for (int undo = 0; undo < MOST_UNDOS; undo++) {
                    m.undo();
                }
                return m;
            }, DecimalMenagerie::undo);
            edges.refuses(REFUSED, () -> {
                DecimalMenagerie m = Scenes.zoo();
                m.restore();
                return m;
            }, DecimalMenagerie::undo);
            edges.answers(0, () -> {
                DecimalMenagerie m = Scenes.zoo();
                for (int undo = 1; undo < MOST_UNDOS; undo++) {
                    m.undo();
                }
                return m;
            }, DecimalMenagerie::undo);
        });
    }

    /** "f" stands for a feed, "u" for an undo; what is due is kept beside. */
    private void feedsAndUndos(String calls) {
        DecimalMenagerie m = Scenes.units(0);
        // So that the number itself stays there.
        m.save();
        m.restore();
        Deque<Long> before = new ArrayDeque<>();
        long value = 0;
        int fed = 0;
        for (char call : calls.toCharArray()) {
            if (call == 'f') {
                before.addFirst(value);
                if (before.size() > MOST_UNDOS) {
                    before.removeLast();
                }
                fed++;
                value += fed;
                edges.due(m.feed(0, 0, fed), value);
            } else if (before.isEmpty()) {
                edges.due(undone(m), REFUSED);
            } else {
                value = before.removeFirst();
                edges.due(undone(m), before.size());
            }
            edges.due(m.value(0), value);
        }
    }

    // ---- promise 45

    private void save() {
        edges.sentence(45, "Saves the state, replacing a previously saved state.", () -> {
            for (Edges.Call first : CHANGES) {
                for (Edges.Call second : new Edges.Call[] {m -> m.addNumber(2, 0, 0, 'u'), m -> m.roundTogether(1)}) {
                    edges.same(EdgesOfUndo::young, all(SAVE, first, SAVE, second, RESTORE),
                            all(first, SAVE, RESTORE));
                }
                // What is saved does not change with what is there.
                edges.same(EdgesOfUndo::young, all(SAVE, first, EdgesOfUndo::addOne, UNDO, RESTORE),
                        all(SAVE, RESTORE));
            }
            edges.same(Scenes::none, all(SAVE, EdgesOfUndo::addOne, RESTORE), SAVE);
            edges.answers(6, Scenes::full, all(SAVE, EdgesOfUndo::removeAll, RESTORE, DecimalMenagerie::count));
            edges.answers(0, Scenes::full,
                    all(EdgesOfUndo::removeAll, SAVE, EdgesOfUndo::addOne, RESTORE, DecimalMenagerie::count));
        });
        edges.sentence(45, "Saving is not a changing call.", () -> {
            edges.same(EdgesOfUndo::young, all(SAVE, SAVE), SAVE);
            for (Edges.Call change : CHANGES) {
                DecimalMenagerie m = young();
                String before = Checks.look(m);
                change.on(m);
                String changed = Checks.look(m);
                m.save();
                edges.due(Checks.look(m), changed);
                edges.due(m.undo(), 3);
                edges.due(Checks.look(m), before);
                m.restore();
                edges.due(Checks.look(m), changed);
            }
            // Nor does it push a call out of the eight.
            DecimalMenagerie m = Scenes.zoo();
            m.save();
            for (int left = MOST_UNDOS - 1; left >= 0; left--) {
                edges.due(undone(m), left);
            }
            edges.due(undone(m), REFUSED);
        });
    }

    private static Object addOne(DecimalMenagerie m) {
        return m.addQuotient(2, 3, 4, 'e');
    }

    private static Object removeAll(DecimalMenagerie m) {
        while (m.count() > 0) {
            m.remove(m.numberAt(0));
        }
        return m.count();
    }

    // ---- promise 46

    private void restore() {
        edges.sentence(46, "Restores the saved state, which stays saved.", () -> {
            for (Edges.Call change : CHANGES) {
                edges.same(EdgesOfUndo::young,
                        all(SAVE, RESTORE, change, RESTORE, change, EdgesOfUndo::addOne, RESTORE), all(SAVE, RESTORE));
            }
            // The state as it was before any change of the zoo that came after its save.
            edges.answers("0=123500/2h 1=75000/1d 2=1000000/0u 3=1/4e crumbs 50 escapes 1 accounts 1198501", Scenes::zoo,
                    all(RESTORE, Checks::look));
            edges.answers("0=123456/4h 1=9999995000/1u crumbs 0 escapes 0 accounts 10000118456", Scenes::young,
                    all(RESTORE, Checks::look));
        });
        edges.sentence(46, "Afterwards no call can be undone.", () -> {
            edges.answers(REFUSED, Scenes::zoo, all(RESTORE, UNDO));
            edges.answers(REFUSED, Scenes::young, all(SAVE, RESTORE, UNDO));
            edges.answers(REFUSED, Scenes::none, all(SAVE, RESTORE, UNDO));
            for (Edges.Call change : CHANGES) {
                edges.answers(0, EdgesOfUndo::young, all(SAVE, RESTORE, change, UNDO));
            }
            DecimalMenagerie m = Scenes.zoo();
            m.restore();
            for (int call = 0; call < 9; call++) {
                m.feed(0, 1, 0);
            }
            for (int left = MOST_UNDOS - 1; left >= 0; left--) {
                edges.due(undone(m), left);
            }
            edges.due(undone(m), REFUSED);
            edges.due(m.value(0), 133500L);
        });
        edges.sentence(46, "Throws `IllegalStateException` if no state was saved", () -> {
            edges.refuses(REFUSED, Scenes::none, EdgesOfUndo::restore);
            edges.refuses(REFUSED, () -> Scenes.units(5, 6, 7), EdgesOfUndo::restore);
            edges.answers("restored", Scenes::none, all(SAVE, RESTORE));
            edges.answers("restored", Scenes::zoo, all(RESTORE, RESTORE));
            // Undo does not take back that a state was saved, and neither does a refused call.
            edges.answers("restored", () -> Scenes.units(5), all(SAVE, UNDO, UNDO, RESTORE));
        });
    }

    private static Object restore(DecimalMenagerie m) {
        m.restore();
        return "restored";
    }
}
