import java.util.List;

/**
 * What can be asked of a menagerie, told as text. Each story asks some of it and may change the menagerie
 * thereby; two menageries that tell all stories alike are in the same state.
 */
final class Story {
    static final List<Edges.Call> ALL = List.of(Story::now, Story::nextNumber, Story::undone, Story::restored,
            Story::programRun, Story::programFinished, Story::roomInTheBuffer);
    private static final int LONGEST_LINE = 40;
    private static final int MOST_UNDOS = 8;

    private Story() {
    }

    private static String now(DecimalMenagerie m) {
        return Checks.look(m) + " total " + m.total() + " line " + line(m) + " " + stored(m);
    }

    static String line(DecimalMenagerie m) {
        StringBuilder line = new StringBuilder();
        for (int at = 0; at < LONGEST_LINE; at++) {
            int index = at;
            Object character = Edges.answer(m, x -> x.outputAt(index));
            if (character instanceof Class) {
                return line.toString();
            }
            line.append(character);
        }
        return line + "..";
    }

    static String stored(DecimalMenagerie m) {
        return "error " + Edges.answer(m, DecimalMenagerie::errorPosition)
                + " failed " + Edges.answer(m, DecimalMenagerie::failedCommand);
    }

    private static String nextNumber(DecimalMenagerie m) {
        while (m.count() > 0) {
            m.remove(m.numberAt(0));
        }
        return "next id " + m.addNumber(0, 0, 0, 'd') + " " + Checks.look(m);
    }

    /** One undo more than there can be, so that the last one has to be refused. */
    private static String undone(DecimalMenagerie m) {
        StringBuilder story = new StringBuilder();
        for (int undos = 0; undos <= MOST_UNDOS; undos++) {
            story.append(Edges.answer(m, DecimalMenagerie::undo)).append(": ").append(Checks.look(m)).append('\n');
        }
        return story + nextNumber(m);
    }

    private static String restored(DecimalMenagerie m) {
        Object answer = Edges.answer(m, x -> {
            x.restore();
            return "restored";
        });
        return answer + " " + Checks.look(m) + " undo " + Edges.answer(m, DecimalMenagerie::undo) + " " + nextNumber(m);
    }

    private static String programRun(DecimalMenagerie m) {
        return "run " + Edges.answer(m, DecimalMenagerie::run) + " " + Checks.look(m) + " " + stored(m);
    }

    private static String programFinished(DecimalMenagerie m) {
        Edges.answer(m, x -> x.append('e'));
        return programRun(m);
    }

    private static String roomInTheBuffer(DecimalMenagerie m) {
        Object first = Edges.answer(m, x -> x.append(';'));
        Object answer = first;
        for (int more = 0; more < 60; more++) {
            answer = Edges.answer(m, x -> x.append(';'));
        }
        return "buffer " + first + " " + answer + " " + stored(m);
    }
}
