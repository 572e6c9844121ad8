import java.util.NoSuchElementException;

/** The sentences on programs in the terms, and those of the promises 37 to 43. */
final class EdgesOfPrograms {
    private static final int TERMS = Edges.TERMS;
    private static final int MOST_CHARACTERS = 60;
    private static final String D = "0123456789";
    private static final String FIRST = "aoftsm";
    private static final Class<IllegalArgumentException> NO_PROGRAM = IllegalArgumentException.class;
    private static final Class<UnsupportedOperationException> FAILED = UnsupportedOperationException.class;

    private final Edges edges;

    EdgesOfPrograms(Edges edges) {
        this.edges = edges;
    }

    void test() {
        edges.sentence(TERMS, "The text buffer holds at most 60 characters.", this::fullBuffer);
        grammar();
        edges.sentence(TERMS, "A decimal stands for an amount; \"0.5\" has the fraction 5000.", this::amounts);
        edges.sentence(TERMS, "The commands call addNumber (amount, scale, mode), addQuotient (dividend, divisor, scale, "
                + "mode), remove, feed (number, amount), trade (from, to, amount), setScale, setMode and roundTogether.",
                this::commands);
        edges.sentence(TERMS, "The error position of a text that is not a program is the index of the first character "
                + "that cannot continue any program with the same preceding characters, or the length of the text if "
                + "the text is a proper prefix of a program.", this::errorPositions);
        append();
        run();
        edges.sentence(39, "Throws `NoSuchElementException` if none was stored", this::errorStored);
        edges.sentence(39, "Returns the error position that was stored last.", this::lastError);
        edges.sentence(40, "Throws `NoSuchElementException` if none was stored", this::failureStored);
        edges.sentence(40, "Returns the failed command that was stored last.", this::lastFailure);
        writeNumber();
        writeQuotient();
        outputAt();
    }

    /** The zoo with an empty buffer. */
    private static DecimalMenagerie zoo() {
        DecimalMenagerie m = Scenes.zoo();
        Edges.answer(m, DecimalMenagerie::run);
        return m;
    }

    private static String times(int times, String text) {
        return text.repeat(times);
    }

    // ---- the buffer

    private void fullBuffer() {
        DecimalMenagerie m = new DecimalMenagerie();
        Checks.append(m, times(MOST_CHARACTERS - 1, "a"));
        edges.due(m.append('b'), MOST_CHARACTERS);
        edges.due(Edges.answer(m, x -> x.append('c')), IllegalStateException.class);
        // All the 60 characters count, as the last one does here.
        String sixty = "add 1 0 d;add 2 0 d;add 3 0 d;add 4 0 d;add 5 0 d;add 60 0 d";
        edges.due(sixty.length(), MOST_CHARACTERS);
        edges.answers(6, Scenes::none, x -> Scenes.run(x, sixty));
        errorAt(59, sixty.substring(0, 59) + "?");
        for (String end : new String[] {"free", "f", "free ", "feed 0", "feed 0 ", "feed 0 1.", "add 1", "add 1 ",
            "add 1.25", "add 1 2", "add 1 2 ", "over 1", "over 1/", "over 1/2", "trade 0", "trade 0-1", "trade 0-1 ", "scale 0",
            "scale 0 ", "mode 0", "mode 0 ", "together", "together ", ""}) {
            errorAt(MOST_CHARACTERS, upTo(MOST_CHARACTERS - end.length()) + end);
        }
        for (String end : new String[] {"free 0", "feed 0 1", "feed 0 1.5", "feed 0 1.2345", "add 1 2 d", "over 1/2 0 e",
            "trade 0-1 2", "scale 0 1", "mode 0 d", "together 0"}) {
            edges.due(errorOf(upTo(MOST_CHARACTERS - end.length()) + end), -1);
        }
        edges.refuses(IllegalStateException.class, () -> filled(Scenes.zoo()), x -> x.append('d'));
        edges.answers(8, Scenes::full, x -> {
            Edges.answer(x, DecimalMenagerie::run);
            return Scenes.run(x, "mode 0 d;mode 1 d;free 0;free 1;free 2;free 3;free 4;free 5");
        });
    }

    /** Five commands, each with a ";" behind it, that have so many characters together. */
    private static String upTo(int characters) {
        StringBuilder text = new StringBuilder();
        for (int commands = 5; commands > 0; commands--) {
            int length = (characters - text.length() + commands - 1) / commands;
            text.append("free ").append("000000", 0, length - "free ;".length()).append(';');
        }
        return text.toString();
    }

    private static DecimalMenagerie filled(DecimalMenagerie m) {
        while (Edges.answer(m, x -> x.append('u')) instanceof Integer) {
            continue;
        }
        return m;
    }

    // ---- the grammar

    private void grammar() {
        edges.sentence(TERMS, "program = command { \";\" command }", this::programs);
        edges.sentence(TERMS, "\"add \" decimal \" \" digit \" \" mode", () -> {
            words("add ", "d", "d", " ", D);
            next("add 1 ", D);
            next("add 1 2", " ");
            next("add 1 2 ", Edges.MODES);
            next("add 1 2 d", ";");
        });
        edges.sentence(TERMS, "\"over \" number \"/\" number \" \" digit \" \" mode", () -> {
            words("over ", "v", "e", "r", " ", D);
            numbers("over ", "/");
            next("over 1/", D);
            numbers("over 1/", " ");
            next("over 1/2 ", D);
            next("over 1/2 3", " ");
            next("over 1/2 3 ", Edges.MODES);
            next("over 1/2 3 e", ";");
        });
        edges.sentence(TERMS, "\"free \" number", () -> {
            words("free ", "re", "e", "e", " ", D);
            numbers("free ", ";");
        });
        edges.sentence(TERMS, "\"feed \" number \" \" decimal", () -> {
            words("feed ", "re", "e", "d", " ", D);
            numbers("feed ", " ");
            next("feed 1 ", D);
            decimals("feed 1 ", ";");
        });
        edges.sentence(TERMS, "\"trade \" number \"-\" number \" \" decimal", () -> {
            words("trade ", "ro", "a", "d", "e", " ", D);
            numbers("trade ", "-");
            next("trade 1-", D);
            numbers("trade 1-", " ");
            next("trade 1-2 ", D);
            decimals("trade 1-2 ", ";");
        });
        edges.sentence(TERMS, "\"scale \" number \" \" digit", () -> {
            words("scale ", "c", "a", "l", "e", " ", D);
            numbers("scale ", " ");
            next("scale 1 ", D);
            next("scale 1 2", ";");
        });
        edges.sentence(TERMS, "\"mode \" number \" \" mode", () -> {
            words("mode ", "o", "d", "e", " ", D);
            numbers("mode ", " ");
            next("mode 1 ", Edges.MODES);
            next("mode 1 l", ";");
        });
        edges.sentence(TERMS, "\"together \" digit", () -> {
            words("together ", "ro", "g", "e", "t", "h", "e", "r", " ", D);
            next("together 3", ";");
        });
        edges.sentence(TERMS, "decimal = number [ \".\" digit [ digit [ digit [ digit ] ] ] ]", () -> decimals("add ", " "));
        edges.sentence(TERMS, "mode    = \"d\" | \"u\" | \"h\" | \"l\" | \"e\"", () -> {
            for (char mode : Edges.MODES.toCharArray()) {
                edges.answers(mode, EdgesOfPrograms::zoo, m -> Scenes.run(m, "mode 0 " + mode).equals(1) ? m.mode(0) : '?');
            }
            next("mode 0 ", Edges.MODES);
        });
        edges.sentence(TERMS, "number  = digit [ digit [ digit [ digit [ digit [ digit ] ] ] ] ]",
                () -> numbers("free ", ";"));
    }

    /** After each start of a word, the characters that can follow. */
    private void words(String word, String... following) {
        for (int length = 1; length <= word.length(); length++) {
            next(word.substring(0, length), following[length - 1]);
        }
    }

    private void numbers(String before, String after) {
        for (int digits = 1; digits < 6; digits++) {
            next(before + "123456".substring(0, digits), D + after);
            next(before + "000000".substring(0, digits), D + after);
        }
        next(before + "123456", after);
        next(before + "000000", after);
    }

    private void decimals(String before, String after) {
        numbers(before, "." + after);
        for (String whole : new String[] {"0", "123456"}) {
            next(before + whole + ".", D);
            for (int digits = 1; digits < 4; digits++) {
                next(before + whole + "." + "6789".substring(0, digits), D + after);
            }
            next(before + whole + ".6789", after);
        }
    }

    /** All characters are tried behind the text; it is a program itself if it could be followed by ";". */
    private void next(String text, String following) {
        if (following.indexOf(';') >= 0) {
            edges.due(errorOf(text), -1);
        } else {
            edges.due(errorOf(text), text.length());
        }
        for (int code = 0; code < 256; code++) {
            next(text, (char) code, following);
        }
        for (char far : new char[] {256 + 'd', 256 + '1', 0x0661, 0x2003, 65535}) {
            next(text, far, following);
        }
    }

    private void next(String text, char character, String following) {
        int error = errorOf(text + character);
        if (following.indexOf(character) >= 0) {
            edges.due(error == -1 || error == text.length() + 1, true);
        } else {
            edges.due(error, text.length());
        }
    }

    /** The error position, or -1 of a program. */
    private static int errorOf(String text) {
        DecimalMenagerie m = new DecimalMenagerie();
        return Scenes.run(m, text) == NO_PROGRAM ? m.errorPosition() : -1;
    }

    private void errorAt(int position, String text) {
        edges.due(errorOf(text), position);
    }

    private void programs() {
        next("", FIRST);
        String[] commands = {"add 1.5 1 d", "over 1/3 2 u", "free 0", "feed 0 1.2345", "trade 0-1 2", "scale 0 3",
            "mode 0 h", "together 4"};
        for (String command : commands) {
            edges.due(errorOf(command), -1);
            next(command + ";", FIRST);
            edges.due(errorOf(command + ";" + command + ";free 0"), -1);
            errorAt(command.length() * 2 + 1, command + ";" + command + "?");
            errorAt(0, ";" + command);
            errorAt(0, " " + command);
        }
        next("free 0;free 0;free 0;", FIRST);
        next("free 0;free 0;free 0;t", "ro");
        edges.due(errorOf(times(7, "free 0;") + "free 0"), -1);
        errorAt(56, times(8, "free 0;"));
        errorAt(57, times(8, "free 0;") + "f");
        errorAt(56, times(8, "free 0;") + "x");
    }

    // ---- what commands do

    private void amounts() {
        String[] decimals = {"0.5", "0.50", "0.500", "0.5000", "0.0005", "0.05", "0.005", "0.5050", "0", "0.0", "0.0000",
            "000000", "1", "10", "000010", "999999", "999999.9", "999999.9999", "7.1234", "0.0001"};
        long[] units = {5000, 5000, 5000, 5000, 5, 500, 50, 5050, 0, 0, 0,
            0, 10000, 100000, 100000, 9999990000L, 9999999000L, 9999999999L, 71234, 1};
        for (int i = 0; i < decimals.length; i++) {
            String decimal = decimals[i];
            edges.answers(units[i], Scenes::none, m -> ran(m, "add " + decimal + " 4 d").value(0));
            edges.answers(units[i], () -> Scenes.units(0), m -> ran(m, "feed 0 " + decimal).value(0));
            edges.answers(units[i], () -> Scenes.units(9999999999L, 0), m -> ran(m, "trade 0-1 " + decimal).value(1));
        }
        // What one decimal says is not left over for the next one, in the same program or the next.
        edges.answers(20000L, Scenes::none, m -> ran(m, "add 1.2345 4 d;add 2 4 d").value(1));
        edges.answers(25000L, Scenes::none, m -> ran(m, "add 1.2345 4 d;add 2.5 4 d").value(1));
        edges.answers(20000L, Scenes::none, m -> ran(ran(m, "add 1.2345 4 d"), "add 2 4 d").value(1));
        edges.answers(25000L, Scenes::none, m -> ran(ran(m, "add 1.2345 4 d"), "add 2.5 4 d").value(1));
    }

    private static DecimalMenagerie ran(DecimalMenagerie m, String program) {
        Scenes.run(m, program);
        return m;
    }

    private void commands() {
        alike("add 3.5 1 l", m -> m.addNumber(3, 5000, 1, 'l'));
        alike("add 999999.9999 4 u", m -> m.addNumber(999999, 9999, 4, 'u'));
        alike("over 5/2 0 e", m -> m.addQuotient(5, 2, 0, 'e'));
        alike("over 9999/999 4 u", m -> m.addQuotient(9999, 999, 4, 'u'));
        alike("over 0/1 0 h", m -> m.addQuotient(0, 1, 0, 'h'));
        alike("free 0", m -> m.remove(0));
        alike("free 000003", m -> m.remove(3));
        alike("feed 0 0.005", m -> m.feed(0, 0, 50));
        alike("feed 3 999999.9999", m -> m.feed(3, 999999, 9999));
        alike("trade 0-1 2.3", m -> m.trade(0, 1, 2, 3000));
        alike("trade 1-0 2.3", m -> m.trade(1, 0, 2, 3000));
        alike("scale 0 0", m -> m.setScale(0, 0));
        alike("scale 2 4", m -> m.setScale(2, 4));
        alike("mode 1 u", m -> m.setMode(1, 'u'));
        alike("together 0", m -> m.roundTogether(0));
        alike("together 4", m -> m.roundTogether(4));
    }

    /** A program of one command leaves everything as the call itself does; it is one call to undo as well. */
    private void alike(String program, Edges.Call call) {
        edges.same(EdgesOfPrograms::zoo, m -> Scenes.run(m, program), call);
    }

    private void errorPositions() {
        // All proper prefixes of programs, and each with a character that fits nowhere.
        String[] programs = {"add 123456.1234 4 h;over 123456/654321 0 e", "free 0;feed 1 1.5;trade 12-34 5.6789",
            "scale 123 4;mode 1 l;together 0;free 7", "trade 1-2 3;together 4;scale 5 6;free 123456;mode 0 d"};
        for (String program : programs) {
            edges.due(errorOf(program), -1);
            for (int length = 0; length < program.length(); length++) {
                String start = program.substring(0, length);
                if (errorOf(start) != -1) {
                    errorAt(length, start);
                    // What an earlier text has left behind the end of this one does not count.
                    edges.answers(length, Scenes::none, m -> ran(ran(m, program), start).errorPosition());
                }
                errorAt(length, start + "?");
                errorAt(length, start + "?" + program.substring(length));
                errorAt(length, start + '\0');
            }
        }
        errorAt(0, "");
        errorAt(0, "x");
        errorAt(0, "A");
        errorAt(1, "ax");
        errorAt(3, "fred 0");
        errorAt(1, "fade 0");
        errorAt(2, "toad 0");
        errorAt(3, "add1 0 d");
        errorAt(4, "add .5 1 d");
        errorAt(6, "add 1. 1 d");
        errorAt(10, "add 1234567 0 d");
        errorAt(10, "add 1.12345 0 d");
        errorAt(7, "add 1 12 d");
        errorAt(9, "add 1 1 dd");
        errorAt(6, "over 1.5/2 0 d");
        errorAt(9, "trade 0-1.5 1");
        errorAt(6, "free 0 ");
        errorAt(11, "free 1234567");
        errorAt(7, "free 0; free 1");
        errorAt(7, "free 0;;free 1");
        // A command that would fail does not matter for the position.
        errorAt(19, "free 9;free 9;free x");
    }

    // ---- promise 37

    private void append() {
        edges.sentence(37, "- `character`: any character", () -> {
            DecimalMenagerie m = null;
            for (int code = 0; code <= 65535; code++) {
                int length = code % MOST_CHARACTERS + 1;
                m = length == 1 ? new DecimalMenagerie() : m;
                edges.due(m.append((char) code), length);
            }
        });
        edges.sentence(37, "Returns the number of characters in the buffer after the call.", () -> {
            DecimalMenagerie m = new DecimalMenagerie();
            for (int round = 0; round < 3; round++) {
                for (int length = 1; length <= MOST_CHARACTERS; length++) {
                    edges.due(m.append(';'), length);
                }
                Edges.answer(m, DecimalMenagerie::run);
            }
        });
        edges.sentence(37, "Throws `IllegalStateException` if the buffer contains 60 characters", () -> {
            DecimalMenagerie m = filled(new DecimalMenagerie());
            edges.due(Edges.answer(m, x -> x.append('a')), IllegalStateException.class);
            edges.due(Edges.answer(m, DecimalMenagerie::run), NO_PROGRAM);
            edges.due(m.errorPosition(), 0);
            edges.due(m.append('a'), 1);
            edges.answers(MOST_CHARACTERS, () -> {
                DecimalMenagerie almost = new DecimalMenagerie();
                Checks.append(almost, times(MOST_CHARACTERS - 1, "u"));
                return almost;
            }, x -> x.append('u'));
            edges.refuses(IllegalStateException.class, () -> filled(Scenes.zoo()), x -> x.append('u'));
        });
    }

    // ---- promise 38

    private void run() {
        edges.sentence(38, "The commands are carried out in order.", () -> {
            edges.answers("2=10000/0d crumbs 0 escapes 0 accounts 10000", () -> Scenes.units(1, 2),
                    m -> Checks.look(ran(m, "free 1;add 1 0 d;free 0")));
            edges.answers('e', () -> Scenes.units(1),
                    m -> ran(m, "mode 0 d;mode 0 u;mode 0 h;mode 0 l;mode 0 e").mode(0));
            edges.answers(30000L, () -> Scenes.one(1, 0, 1, 'd'),
                    m -> ran(m, "feed 0 0.5;mode 0 u;scale 0 0;feed 0 0.5").value(0));
        });
        edges.sentence(38, "If one of them fails, none of them has an effect.", this::noEffect);
        edges.sentence(38, "The buffer is empty afterwards in every case.", () -> {
            String[] texts = {"", "x", "free 0", "free 9", "free 0;free 0", times(MOST_CHARACTERS, "x"), "mode 0 "};
            for (String text : texts) {
                edges.answers(1, EdgesOfPrograms::zoo, m -> ran(m, text).append('a'));
                edges.answers(NO_PROGRAM, EdgesOfPrograms::zoo, m -> Scenes.run(ran(m, text), ""));
            }
        });
        edges.sentence(38, "Returns the number of commands.", () -> {
            edges.answers(1, EdgesOfPrograms::zoo, m -> Scenes.run(m, "free 0"));
            edges.answers(2, EdgesOfPrograms::zoo, m -> Scenes.run(m, "free 0;free 1"));
            edges.answers(6, Scenes::none, m -> Scenes.run(m, times(5, "add 1 0 d;") + "add 1 0 d"));
        });
        edges.sentence(38, "Throws `IllegalArgumentException` if the text is not a program; the error position is stored",
                this::noProgram);
        edges.sentence(38, "Throws `UnsupportedOperationException` if a command fails, that is, if its method would throw "
                + "an exception; the index of the command, from 0, is stored as the failed command", this::failing);
    }

    /** Compared with a program that fails at the same command, but whose commands before it change nothing. */
    private void noEffect() {
        effectless("free 9", "free 9");
        effectless("free 0;free 0", "mode 0 h;free 9");
        effectless("add 1 0 d;over 1/3 0 d;add 1 0 d", "mode 0 h;mode 0 h;free 9");
        effectless("feed 3 999999.9999;free 9", "mode 0 h;free 9");
        effectless("trade 2-0 99;scale 0 0;mode 1 u;together 0;free 9", "mode 0 h;mode 0 h;mode 0 h;mode 0 h;free 9");
        effectless("free 0;free 1;free 2;free 3;add 1 0 d;add 1 5 d",
                "mode 0 h;mode 0 h;mode 0 h;mode 0 h;mode 0 h;free 9");
    }

    private void effectless(String program, String reference) {
        edges.answers(FAILED, EdgesOfPrograms::zoo, m -> Scenes.run(m, program));
        edges.same(EdgesOfPrograms::zoo, m -> Scenes.run(m, program), m -> Scenes.run(m, reference));
    }

    private void noProgram() {
        notRun("", 0);
        notRun("free", 4);
        notRun("free 0;", 7);
        notRun("free 0;free 1;?", 14);
        notRun("add 1 0 d;over 1/2 0 d;x", 23);
        notRun("free 0;free 0;x", 14);
        // The text is looked at as a whole before a command is carried out, so none of the commands fails.
        edges.answers(NoSuchElementException.class, () -> ran(Scenes.none(), "free 9;x"), EdgesOfPrograms::failure);
    }

    private void notRun(String text, int error) {
        edges.answers(NO_PROGRAM, EdgesOfPrograms::zoo, m -> Scenes.run(m, text));
        edges.answers(error, EdgesOfPrograms::zoo, m -> ran(m, text).errorPosition());
        edges.same(EdgesOfPrograms::zoo, m -> Scenes.run(m, text), m -> Scenes.run(m, nothingBut(error)));
    }

    /** Another text with the error at this position, whose commands would all fail. */
    private static String nothingBut(int error) {
        return "add 999999.9999 9 d;add 999999.9999 9 d;add 999999.9999 9 d".substring(0, error) + "?";
    }

    private void fails(int index, String program) {
        edges.answers(FAILED, EdgesOfPrograms::zoo, m -> Scenes.run(m, program));
        edges.answers(index, EdgesOfPrograms::zoo, m -> ran(m, program).failedCommand());
    }

    private void works(int commands, String program) {
        edges.answers(commands, EdgesOfPrograms::zoo, m -> Scenes.run(m, program));
        // The failed command of the zoo itself stays.
        edges.answers(Scenes.FAILED_BEFORE, EdgesOfPrograms::zoo, m -> ran(m, program).failedCommand());
    }

    private void failing() {
        works(1, "add 1 4 d");
        fails(0, "add 1 5 d");
        fails(0, "add 1 9 d");
        works(1, "add 1.1 1 d");
        fails(0, "add 1.1 0 d");
        fails(0, "add 1.0001 3 d");
        works(2, "add 1 0 d;add 1 0 d");
        fails(2, "add 1 0 d;add 1 0 d;add 1 0 d");
        works(1, "over 9999/1 0 d");
        fails(0, "over 10000/1 0 d");
        works(1, "over 0/999 0 d");
        fails(0, "over 0/1000 0 d");
        fails(0, "over 0/0 0 d");
        fails(0, "over 1/1 5 d");
        fails(2, "over 1/1 0 d;over 1/1 0 d;over 1/1 0 d");
        works(1, "free 3");
        fails(0, "free 4");
        fails(0, "free 999999");
        works(1, "feed 3 0");
        fails(0, "feed 4 0");
        works(1, "trade 0-3 13.35");
        fails(0, "trade 0-3 13.36");
        fails(0, "trade 0-3 0.001");
        fails(0, "trade 0-0 0");
        fails(0, "trade 4-0 0");
        fails(0, "trade 0-4 0");
        works(1, "scale 3 4");
        fails(0, "scale 3 5");
        fails(0, "scale 4 0");
        works(1, "mode 3 d");
        fails(0, "mode 4 d");
        works(1, "together 4");
        fails(0, "together 5");
        // It depends on what the commands before it have done, and the first one that fails is stored.
        works(2, "add 1 0 d;free 4");
        fails(1, "free 3;free 3");
        fails(1, "free 3;trade 0-3 1;free 9");
        fails(1, "free 3;free 9;free 9;free 9");
        fails(4, "free 0;free 1;free 2;free 3;free 0");
        fails(6, "free 0;free 1;free 2;free 3;add 1 0 d;free 4;free 4");
        edges.answers(7, Scenes::full, m -> {
            Edges.answer(m, DecimalMenagerie::run);
            return ran(m, "mode 0 d;mode 1 d;free 0;free 1;free 2;free 3;free 4;free 4").failedCommand();
        });
    }

    // ---- promises 39 and 40

    private static Object error(DecimalMenagerie m) {
        return Edges.answer(m, DecimalMenagerie::errorPosition);
    }

    private static Object failure(DecimalMenagerie m) {
        return Edges.answer(m, DecimalMenagerie::failedCommand);
    }

    private void errorStored() {
        edges.refuses(NoSuchElementException.class, Scenes::none, DecimalMenagerie::errorPosition);
        edges.answers(0, () -> ran(Scenes.none(), ""), EdgesOfPrograms::error);
        edges.answers(NoSuchElementException.class, () -> ran(Scenes.none(), "free 0"), EdgesOfPrograms::error);
        edges.answers(NoSuchElementException.class, () -> ran(Scenes.none(), "add 1 0 d"), EdgesOfPrograms::error);
        edges.answers(60, () -> ran(Scenes.none(), times(8, "free 0;") + "free"), EdgesOfPrograms::error);
    }

    private void lastError() {
        DecimalMenagerie m = new DecimalMenagerie();
        Scenes.run(m, "free x");
        edges.due(error(m), 5);
        edges.due(error(m), 5);
        Scenes.run(m, "add 1 0 d");
        edges.due(error(m), 5);
        Scenes.run(m, "free 9");
        edges.due(error(m), 5);
        Scenes.run(m, "");
        edges.due(error(m), 0);
        Scenes.run(m, "free 0;x");
        edges.due(error(m), 7);
    }

    private void failureStored() {
        edges.refuses(NoSuchElementException.class, Scenes::none, DecimalMenagerie::failedCommand);
        edges.answers(0, () -> ran(Scenes.none(), "free 0"), EdgesOfPrograms::failure);
        edges.answers(NoSuchElementException.class, () -> ran(Scenes.none(), "free x"), EdgesOfPrograms::failure);
        edges.answers(NoSuchElementException.class, () -> ran(Scenes.none(), "add 1 0 d"), EdgesOfPrograms::failure);
    }

    private void lastFailure() {
        DecimalMenagerie m = new DecimalMenagerie();
        Scenes.run(m, "add 1 0 d;free 0;free 0");
        edges.due(failure(m), 2);
        edges.due(failure(m), 2);
        Scenes.run(m, "add 1 0 d");
        edges.due(failure(m), 2);
        Scenes.run(m, "free x");
        edges.due(failure(m), 2);
        Scenes.run(m, "free 9");
        edges.due(failure(m), 0);
        Scenes.run(m, "mode 0 d;free 9");
        edges.due(failure(m), 1);
    }

    // ---- promises 41 to 43

    private String number(DecimalMenagerie m, int number) {
        edges.due(m.writeNumber(number), Story.line(m).length());
        return Story.line(m);
    }

    private void writeNumber() {
        edges.sentence(41, "the id, \":\", the whole part, \".\" and as many digits as the scale if the scale is not 0, "
                + "and the mode; for example \"3:12.50h\" for the scale 2 or \"0:7d\" for the scale 0.", () -> {
                    edges.answers("0:7d", () -> Scenes.one(7, 0, 0, 'd'), m -> number(m, 0));
                    edges.answers("0:7.5u", () -> Scenes.one(7, 5000, 1, 'u'), m -> number(m, 0));
                    edges.answers("0:7.05h", () -> Scenes.one(7, 500, 2, 'h'), m -> number(m, 0));
                    edges.answers("0:7.005l", () -> Scenes.one(7, 50, 3, 'l'), m -> number(m, 0));
                    edges.answers("0:7.0005e", () -> Scenes.one(7, 5, 4, 'e'), m -> number(m, 0));
                    edges.answers("0:0d", () -> Scenes.one(0, 0, 0, 'd'), m -> number(m, 0));
                    edges.answers("0:0.0d", () -> Scenes.one(0, 0, 1, 'd'), m -> number(m, 0));
                    edges.answers("0:0.0000d", () -> Scenes.units(0), m -> number(m, 0));
                    edges.answers("0:999999.9999d", () -> Scenes.units(9999999999L), m -> number(m, 0));
                    edges.answers("0:100000d", () -> Scenes.one(100000, 0, 0, 'd'), m -> number(m, 0));
                    edges.answers("3:12.50h", () -> ran(Scenes.units(1, 1, 1), "add 12.5 2 h"), m -> number(m, 3));
                    DecimalMenagerie many = new DecimalMenagerie();
                    for (int id = 0; id <= 100; id++) {
                        many.addNumber(id, 0, 0, 'd');
                        if (id == 9 || id == 10 || id == 99 || id == 100) {
                            edges.due(number(many, id), id + ":" + id + "d");
                        }
                        many.remove(id);
                    }
                });
        edges.sentence(41, "Writes a number to the output line, replacing its content", () -> {
            DecimalMenagerie m = Scenes.zoo();
            m.writeQuotient(1, 43);
            edges.due(number(m, 2), "2:99u");
            edges.due(number(m, 0), "0:13.35h");
            edges.due(number(m, 2), "2:99u");
        });
        edges.sentence(41, "Returns the length of the line.", () -> {
            edges.answers(4, () -> Scenes.one(7, 0, 0, 'd'), m -> m.writeNumber(0));
            edges.answers(14, () -> Scenes.units(9999999999L), m -> m.writeNumber(0));
        });
        edges.sentence(41, "Throws `NoSuchElementException` if there is no number with this id", () ->
                edges.numbers(DecimalMenagerie::writeNumber));
    }

    private void quotient(String due, int dividend, int divisor) {
        DecimalMenagerie m = new DecimalMenagerie();
        edges.due(m.writeQuotient(dividend, divisor), due.length());
        edges.due(Story.line(m), due);
    }

    private void writeQuotient() {
        edges.sentence(42, "the whole part, \".\", the digits of the preperiod, \"(\", the digits of the period, of which at "
                + "most the first 20 are written, and \")\"; for example \"0.1(6)\" for 1 divided by 6 or \"2.5(0)\" for 5 "
                + "divided by 2.", () -> {
                    quotient("0.1(6)", 1, 6);
                    quotient("2.5(0)", 5, 2);
                    quotient("0.(0)", 0, 999);
                    quotient("9999.(0)", 9999, 1);
                    quotient("10.(009)", 9999, 999);
                    quotient("0.001953125(0)", 1, 512);
                    quotient("1.0(02)", 992, 990);
                    // There are periods of 18 and of 21 digits, but none between them.
                    quotient("0.(052631578947368421)", 1, 19);
                    quotient("0.0(263157894736842105)", 1, 38);
                    quotient("0.(02325581395348837209)", 1, 43);
                    quotient("0.0(11627906976744186046)", 1, 86);
                    quotient("232.(53488372093023255813)", 9999, 43);
                    quotient("0.(00101729399796541200)", 1, 983);
                });
        edges.sentence(42, "Writes a quotient to the output line, replacing its content", () -> {
            DecimalMenagerie m = Scenes.zoo();
            m.writeQuotient(1, 43);
            m.writeQuotient(1, 6);
            edges.due(Story.line(m), "0.1(6)");
            m.writeNumber(0);
            m.writeQuotient(5, 2);
            edges.due(Story.line(m), "2.5(0)");
        });
        edges.sentence(42, "- `dividend`: the dividend, 0 to 9999", () ->
                edges.argument(0, "0.(0)".length(), 9999, "9999.(0)".length(), Scenes::none,
                        (m, a) -> m.writeQuotient(a, 1)));
        edges.sentence(42, "- `divisor`: the divisor, 1 to 999", () ->
                edges.argument(1, "1.(0)".length(), 999, "0.(001)".length(), Scenes::none,
                        (m, a) -> m.writeQuotient(1, a)));
        edges.sentence(42, "Throws `IllegalArgumentException` if the dividend or the divisor is out of range", () -> {
            int[][] bad = {{-1, 7}, {10000, 7}, {1, 0}, {0, 0}, {1, -1}, {1, 1000}, {-1, -1}, {10000, 1000}};
            for (int[] of : bad) {
                edges.refuses(IllegalArgumentException.class, Scenes::zoo, m -> m.writeQuotient(of[0], of[1]));
            }
        });
    }

    private void outputAt() {
        edges.sentence(43, "Returns a character of the output line, which is initially empty.", () -> {
            edges.answers("", Scenes::none, Story::line);
            edges.answers("", () -> Scenes.units(5), Story::line);
            edges.answers("0.1(6)", Scenes::zoo, Story::line);
        });
        edges.sentence(43, "- `index`: the index, from 0", () ->
                edges.index(0, '0', 5, ')', Scenes::zoo, DecimalMenagerie::outputAt));
        edges.sentence(43, "Throws `IndexOutOfBoundsException` if the index is negative or not less than the length of the "
                + "line", () -> {
                    Class<IndexOutOfBoundsException> refusal = IndexOutOfBoundsException.class;
                    edges.refuses(refusal, Scenes::none, m -> m.outputAt(0));
                    edges.refuses(refusal, Scenes::none, m -> m.outputAt(-1));
                    edges.index(0, '0', 23, ')', () -> quotientWritten(1, 43), DecimalMenagerie::outputAt);
                    edges.index(0, '0', 4, ')', () -> {
                        DecimalMenagerie m = quotientWritten(1, 43);
                        m.writeQuotient(0, 1);
                        return m;
                    }, DecimalMenagerie::outputAt);
                });
    }

    private static DecimalMenagerie quotientWritten(int dividend, int divisor) {
        DecimalMenagerie m = new DecimalMenagerie();
        m.writeQuotient(dividend, divisor);
        return m;
    }
}
