import java.util.Random;
import java.util.function.Function;
import java.util.function.ToIntFunction;

/** Drives the menagerie and the reference by the same calls, chosen from fixed seeds, and compares all answers. */
final class RandomRunsTest {
    private static final int RUNS = 4000;
    private static final int MOST_CALLS = 512;
    // What looks at everything at the end of a run needs about this many calls.
    private static final int CALLS_OF_A_LOOK = 130;
    private static final char[] MODES = {'d', 'u', 'h', 'l', 'e'};

    private final Checks checks;
    private final int run;
    private final Random random;
    private final DecimalMenagerie menagerie = new DecimalMenagerie();
    private final ReferenceMenagerie reference = new ReferenceMenagerie();
    private final StringBuilder told = new StringBuilder();
    private int calls = 0;

    private RandomRunsTest(Checks checks, int run) {
        this.checks = checks;
        this.run = run;
        this.random = new Random(run);
    }

    public static void main(String[] args) {
        Checks checks = new Checks("RandomRunsTest");
        for (int run = 0; run < RUNS && checks.wrong() == 0; run++) {
            new RandomRunsTest(checks, run).play();
        }
        checks.end();
    }

    private void play() {
        int most = random.nextInt(MOST_CALLS - CALLS_OF_A_LOOK - 60);
        while (calls < most && checks.wrong() == 0) {
            callOnce();
        }
        lookAtAll();
        if (checks.wrong() != 0) {
            System.out.println("run " + run + ":" + told);
        }
        if (calls > MOST_CALLS) {
            checks.due("calls of run " + run, calls, "at most " + MOST_CALLS);
        }
    }

    private void same(String call, Object got, Object want) {
        calls++;
        told.append(' ').append(call).append(" = ").append(got).append(';');
        checks.due("run " + run + ", call " + calls + ": " + call, got, want);
    }

    private static <T> Object answer(T object, Function<T, Object> call) {
        try {
            return call.apply(object);
        } catch (RuntimeException e) {
            return e.getClass();
        }
    }

    private void both(String call, Function<DecimalMenagerie, Object> one, Function<ReferenceMenagerie, Object> other) {
        same(call, answer(menagerie, one), answer(reference, other));
    }

    private void callOnce() {
        int kind = random.nextInt(100);
        if (kind < 45) {
            change();
        } else if (kind < 48) {
            runProgram();
        } else if (kind < 52) {
            both("undo()", DecimalMenagerie::undo, ReferenceMenagerie::undo);
        } else if (kind < 54) {
            menagerie.save();
            reference.save();
            calls++;
            told.append(" save();");
        } else if (kind < 55) {
            both("restore()", m -> { m.restore(); return 0; }, m -> { m.restore(); return 0; });
        } else if (kind < 70) {
            askNumber();
        } else if (kind < 80) {
            askTogether();
        } else if (kind < 87) {
            askQuotient();
        } else if (kind < 94) {
            askTotals();
        } else {
            askOutput();
        }
    }

    // ---- arguments, with many at the edges

    private int id() {
        int count = reference.count();
        if (count == 0 || random.nextInt(20) == 0) {
            return Checks.pick(random, 0, -1, 1, 7, 100, Integer.MIN_VALUE, Integer.MAX_VALUE);
        }
        return reference.numberAt(random.nextInt(count));
    }

    private int whole() {
        if (random.nextInt(40) == 0) {
            return Checks.pick(random, -1, 1000000, Integer.MIN_VALUE, Integer.MAX_VALUE);
        }
        return random.nextInt(3) == 0 ? random.nextInt(1000000)
                : Checks.pick(random, 0, 0, 0, 1, 2, 3, 5, 9, 10, 12, 99, 999, 99999, 499999, 500000, 999998, 999999);
    }

    private int fraction() {
        if (random.nextInt(40) == 0) {
            return Checks.pick(random, -1, 10000, Integer.MIN_VALUE, Integer.MAX_VALUE);
        }
        return random.nextInt(3) == 0 ? random.nextInt(10000)
                : Checks.pick(random, 0, 0, 0, 5000, 2500, 7500, 500, 1500, 50, 150, 5, 15, 9999, 4999, 5001, 9990, 1);
    }

    private int scale() {
        return random.nextInt(25) == 0 ? Checks.pick(random, -1, 5, Integer.MIN_VALUE, Integer.MAX_VALUE) : random.nextInt(5);
    }

    private char mode() {
        return random.nextInt(30) == 0 ? (char) Checks.pick(random, 'x', 'D', 0, 'c', 300, 65535)
                : MODES[random.nextInt(MODES.length)];
    }

    private int dividend() {
        return random.nextInt(30) == 0 ? Checks.pick(random, -1, 10000, Integer.MIN_VALUE, Integer.MAX_VALUE)
                : random.nextInt(2) == 0 ? random.nextInt(10000) : Checks.pick(random, 0, 1, 2, 3, 5, 7, 25, 9999);
    }

    private int divisor() {
        return random.nextInt(30) == 0 ? Checks.pick(random, 0, -1, 1000, Integer.MIN_VALUE, Integer.MAX_VALUE)
                : random.nextInt(2) == 0 ? 1 + random.nextInt(999)
                : Checks.pick(random, 1, 2, 3, 4, 6, 7, 8, 16, 512, 625, 983, 997, 999, 80, 800, 32);
    }

    private int index() {
        return random.nextInt(12) - 2;
    }

    // ---- calls

    private void change() {
        int a = id();
        int b = id();
        int w = whole();
        int f = fraction();
        int s = scale();
        char m = mode();
        int p = dividend();
        int q = divisor();
        switch (random.nextInt(11)) {
            case 0, 1 -> both("addNumber(" + w + "," + f + "," + s + "," + m + ")",
                    x -> x.addNumber(w, f, s, m), x -> x.addNumber(w, f, s, m));
            case 2 -> both("addQuotient(" + p + "," + q + "," + s + "," + m + ")",
                    x -> x.addQuotient(p, q, s, m), x -> x.addQuotient(p, q, s, m));
            case 3 -> {
                if (random.nextInt(2) == 0) {
                    both("remove(" + a + ")", x -> x.remove(a), x -> x.remove(a));
                }
            }
            case 4, 5, 6 -> both("feed(" + a + "," + w + "," + f + ")", x -> x.feed(a, w, f), x -> x.feed(a, w, f));
            case 7, 8 -> both("trade(" + a + "," + b + "," + w + "," + f + ")",
                    x -> x.trade(a, b, w, f), x -> x.trade(a, b, w, f));
            case 9 -> {
                if (random.nextInt(3) == 0) {
                    both("roundTogether(" + s + ")", x -> x.roundTogether(s), x -> x.roundTogether(s));
                } else {
                    both("setScale(" + a + "," + s + ")", x -> x.setScale(a, s), x -> x.setScale(a, s));
                }
            }
            default -> both("setMode(" + a + "," + m + ")", x -> x.setMode(a, m), x -> x.setMode(a, m));
        }
    }

    private void askNumber() {
        int a = id();
        int w = whole();
        int f = fraction();
        int s = scale();
        char m = mode();
        int i = index();
        int parts = random.nextInt(12) - 1;
        switch (random.nextInt(13)) {
            case 0 -> both("numberAt(" + i + ")", x -> x.numberAt(i), x -> x.numberAt(i));
            case 1 -> both("value(" + a + ")", x -> x.value(a), x -> x.value(a));
            case 2 -> both("scale(" + a + ")", x -> x.scale(a), x -> x.scale(a));
            case 3 -> both("mode(" + a + ")", x -> x.mode(a), x -> x.mode(a));
            case 4 -> both("digit(" + a + "," + (i - 3) + ")", x -> x.digit(a, i - 3), x -> x.digit(a, i - 3));
            case 5 -> both("digitSum(" + a + ")", x -> x.digitSum(a), x -> x.digitSum(a));
            case 6 -> both("numberAtRank(" + i + ")", x -> x.numberAtRank(i), x -> x.numberAtRank(i));
            case 7 -> both("rounded(" + a + "," + s + "," + m + ")", x -> x.rounded(a, s, m), x -> x.rounded(a, s, m));
            case 8 -> both("part(" + a + "," + parts + "," + i + ")", x -> x.part(a, parts, i), x -> x.part(a, parts, i));
            case 9 -> both("carries(" + a + "," + w + "," + f + ")", x -> x.carries(a, w, f), x -> x.carries(a, w, f));
            case 10 -> both("carriesBySums(" + a + "," + w + "," + f + ")",
                    x -> x.carriesBySums(a, w, f), x -> x.carries(a, w, f));
            case 11 -> both("longestCarry(" + a + "," + w + "," + f + ")",
                    x -> x.longestCarry(a, w, f), x -> x.longestCarry(a, w, f));
            default -> both("count()", DecimalMenagerie::count, ReferenceMenagerie::count);
        }
    }

    private void askTogether() {
        int a = id();
        int s = scale();
        switch (random.nextInt(3)) {
            case 0 -> both("togetherError(" + s + ")", x -> x.togetherError(s), x -> x.togetherError(s));
            case 1 -> both("togetherErrorBySets(" + s + ")", x -> x.togetherErrorBySets(s), x -> x.togetherError(s));
            default -> both("goesUp(" + a + "," + s + ")", x -> x.goesUp(a, s), x -> x.goesUp(a, s));
        }
    }

    private void askQuotient() {
        int p = dividend();
        int q = divisor();
        int i = random.nextInt(3) == 0 ? Checks.pick(random, 0, -1, 1, 9999, 10000) : random.nextInt(200);
        switch (random.nextInt(4)) {
            case 0 -> both("quotientDigit(" + p + "," + q + "," + i + ")",
                    x -> x.quotientDigit(p, q, i), x -> x.quotientDigit(p, q, i));
            case 1 -> both("preperiod(" + p + "," + q + ")", x -> x.preperiod(p, q), x -> x.preperiod(p, q));
            case 2 -> both("period(" + p + "," + q + ")", x -> x.period(p, q), x -> x.period(p, q));
            default -> both("periodByPowers(" + p + "," + q + ")", x -> x.periodByPowers(p, q), x -> x.period(p, q));
        }
    }

    private void askTotals() {
        int a = id();
        switch (random.nextInt(7)) {
            case 0 -> both("total()", DecimalMenagerie::total, ReferenceMenagerie::total);
            case 1 -> both("totalByAccounts()", DecimalMenagerie::totalByAccounts, ReferenceMenagerie::totalByAccounts);
            case 2 -> both("escapes()", DecimalMenagerie::escapes, ReferenceMenagerie::escapes);
            case 3 -> both("crumbs()", DecimalMenagerie::crumbs, ReferenceMenagerie::crumbs);
            case 4 -> both("meanValue()", DecimalMenagerie::meanValue, ReferenceMenagerie::meanValue);
            case 5 -> both("share(" + a + ")", x -> x.share(a), x -> x.share(a));
            default -> both("isConsistent()", DecimalMenagerie::isConsistent, x -> true);
        }
    }

    private void askOutput() {
        int a = id();
        int p = dividend();
        int q = divisor();
        int i = random.nextInt(40) - 2;
        switch (random.nextInt(5)) {
            case 0 -> both("writeNumber(" + a + ")", x -> x.writeNumber(a), x -> x.writeNumber(a));
            case 1 -> both("writeQuotient(" + p + "," + q + ")", x -> x.writeQuotient(p, q), x -> x.writeQuotient(p, q));
            case 2 -> both("errorPosition()", DecimalMenagerie::errorPosition, ReferenceMenagerie::errorPosition);
            case 3 -> both("failedCommand()", DecimalMenagerie::failedCommand, ReferenceMenagerie::failedCommand);
            default -> both("outputAt(" + i + ")", x -> x.outputAt(i), x -> x.outputAt(i));
        }
    }

    // ---- programs

    private void runProgram() {
        String text = program();
        for (int i = 0; i < text.length(); i++) {
            char c = text.charAt(i);
            both("append(" + c + ")", x -> x.append(c), x -> x.append(c));
        }
        if (random.nextInt(10) != 0) {
            both("run()", DecimalMenagerie::run, ReferenceMenagerie::run);
        }
    }

    private String program() {
        StringBuilder text = new StringBuilder(command());
        for (int more = random.nextInt(4); more > 0; more--) {
            text.append(';').append(command());
        }
        if (random.nextInt(4) == 0) {
            text.setLength(random.nextInt(text.length() + 1));
        }
        if (random.nextInt(3) == 0) {
            int at = random.nextInt(text.length() + 1);
            String others = " ;.,/-0123456789adefghlmorstuvx\u0000\u00ff\u0130\uffff";
            char other = others.charAt(random.nextInt(others.length()));
            if (at < text.length() && random.nextInt(2) == 0) {
                text.setCharAt(at, other);
            } else {
                text.insert(at, other);
            }
        }
        text.setLength(Math.min(text.length(), 61));
        return text.toString();
    }

    private String command() {
        String digit = String.valueOf(random.nextInt(15) == 0 ? random.nextInt(10) : random.nextInt(5));
        char mode = MODES[random.nextInt(MODES.length)];
        return switch (random.nextInt(8)) {
            case 0 -> "add " + decimal() + " " + digit + " " + mode;
            case 1 -> "over " + number(x -> dividend()) + "/" + number(x -> divisor()) + " " + digit + " " + mode;
            case 2 -> "free " + number(x -> id());
            case 3 -> "feed " + number(x -> id()) + " " + decimal();
            case 4 -> "trade " + number(x -> id()) + "-" + number(x -> id()) + " " + decimal();
            case 5 -> "scale " + number(x -> id()) + " " + digit;
            case 6 -> "mode " + number(x -> id()) + " " + mode;
            default -> "together " + digit;
        };
    }

    private String number(ToIntFunction<Random> pick) {
        String digits = String.valueOf(Math.floorMod(pick.applyAsInt(random), 1000000));
        return random.nextInt(8) == 0 && digits.length() < 6 ? "0" + digits : digits;
    }

    private String decimal() {
        String number = number(x -> random.nextInt(2) == 0 ? random.nextInt(10) : whole());
        if (random.nextInt(3) == 0) {
            return number;
        }
        String digits = String.format("%04d", Math.floorMod(fraction(), 10000));
        return number + "." + digits.substring(0, 1 + random.nextInt(4));
    }

    // ---- everything

    private void lookAtAll() {
        both("count()", DecimalMenagerie::count, ReferenceMenagerie::count);
        both("crumbs()", DecimalMenagerie::crumbs, ReferenceMenagerie::crumbs);
        both("escapes()", DecimalMenagerie::escapes, ReferenceMenagerie::escapes);
        both("total()", DecimalMenagerie::total, ReferenceMenagerie::total);
        both("totalByAccounts()", DecimalMenagerie::totalByAccounts, ReferenceMenagerie::totalByAccounts);
        both("isConsistent()", DecimalMenagerie::isConsistent, x -> true);
        both("errorPosition()", DecimalMenagerie::errorPosition, ReferenceMenagerie::errorPosition);
        both("failedCommand()", DecimalMenagerie::failedCommand, ReferenceMenagerie::failedCommand);
        for (int at = 0; at < 6; at++) {
            int position = at;
            both("numberAt(" + at + ")", x -> x.numberAt(position), x -> x.numberAt(position));
            both("numberAtRank(" + at + ")", x -> x.numberAtRank(position), x -> x.numberAtRank(position));
        }
        for (int at = 0; at < reference.count(); at++) {
            int id = reference.numberAt(at);
            both("value(" + id + ")", x -> x.value(id), x -> x.value(id));
            both("scale(" + id + ")", x -> x.scale(id), x -> x.scale(id));
            both("mode(" + id + ")", x -> x.mode(id), x -> x.mode(id));
        }
        for (int at = 0; at < 40; at++) {
            int index = at;
            both("outputAt(" + at + ")", x -> x.outputAt(index), x -> x.outputAt(index));
        }
        for (int at = 0; at < 9; at++) {
            both("undo()", DecimalMenagerie::undo, ReferenceMenagerie::undo);
            both("total()", DecimalMenagerie::total, ReferenceMenagerie::total);
            both("totalByAccounts()", DecimalMenagerie::totalByAccounts, ReferenceMenagerie::totalByAccounts);
            both("crumbs()", DecimalMenagerie::crumbs, ReferenceMenagerie::crumbs);
        }
        both("restore()", m -> { m.restore(); return 0; }, m -> { m.restore(); return 0; });
        both("total()", DecimalMenagerie::total, ReferenceMenagerie::total);
        both("undo()", DecimalMenagerie::undo, ReferenceMenagerie::undo);
        both("addNumber(0,0,0,d)", x -> x.addNumber(0, 0, 0, 'd'), x -> x.addNumber(0, 0, 0, 'd'));
    }
}
