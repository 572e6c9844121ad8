import java.math.BigDecimal;
import java.math.BigInteger;
import java.math.RoundingMode;
import java.util.ArrayDeque;
import java.util.ArrayList;
import java.util.Comparator;
import java.util.Deque;
import java.util.List;
import java.util.NoSuchElementException;
import java.util.regex.Matcher;
import java.util.regex.Pattern;

/** The document once more, by other means: decimals of the library, all choices tried, a regular expression. */
final class ReferenceMenagerie {
    private static final BigDecimal LIMIT = new BigDecimal(1000000);
    private static final String NUMBER = "(\\d{1,6})";
    private static final String DECIMAL = "(\\d{1,6}(?:\\.\\d{1,4})?)";
    private static final String COMMAND = "(?:add " + DECIMAL + " (\\d) ([duhle])"
            + "|over " + NUMBER + "/" + NUMBER + " (\\d) ([duhle])"
            + "|free " + NUMBER
            + "|feed " + NUMBER + " " + DECIMAL
            + "|trade " + NUMBER + "-" + NUMBER + " " + DECIMAL
            + "|scale " + NUMBER + " (\\d)"
            + "|mode " + NUMBER + " ([duhle])"
            + "|together (\\d))";
    private static final Pattern PROGRAM = Pattern.compile(COMMAND + "(?:;" + COMMAND + ")*");

    private record Numeral(int id, BigDecimal value, int scale, char mode) {
    }

    private record State(List<Numeral> numerals, int nextId, int escapes, BigDecimal crumbs, BigDecimal accounts) {
    }

    private State now = new State(List.of(), 0, 0, BigDecimal.ZERO, BigDecimal.ZERO);
    private State saved = null;
    private final Deque<State> before = new ArrayDeque<>();
    private final StringBuilder text = new StringBuilder();
    private Integer errorPosition = null;
    private Integer failedCommand = null;
    private String line = "";

    // ---- changes

    private interface Change<T> {
        T make();
    }

    private <T> T undoable(Change<T> change) {
        State old = now;
        T answer;
        try {
            answer = change.make();
        } catch (RuntimeException e) {
            now = old;
            throw e;
        }
        before.addFirst(old);
        if (before.size() > 8) {
            before.removeLast();
        }
        return answer;
    }

    int addNumber(int whole, int fraction, int scale, char mode) {
        return undoable(() -> add(whole, fraction, scale, mode));
    }

    int addQuotient(int dividend, int divisor, int scale, char mode) {
        return undoable(() -> over(dividend, divisor, scale, mode));
    }

    long remove(int number) {
        return undoable(() -> free(number));
    }

    long feed(int number, int whole, int fraction) {
        return undoable(() -> give(number, whole, fraction));
    }

    long trade(int from, int to, int whole, int fraction) {
        return undoable(() -> move(from, to, whole, fraction));
    }

    int setScale(int number, int scale) {
        return undoable(() -> rescale(number, scale));
    }

    char setMode(int number, char mode) {
        return undoable(() -> remode(number, mode));
    }

    int roundTogether(int scale) {
        return undoable(() -> together(scale));
    }

    private int add(int whole, int fraction, int scale, char mode) {
        BigDecimal value = amount(whole, fraction);
        scaleOk(scale);
        modeOk(mode);
        return enter(value, scale, mode);
    }

    private int enter(BigDecimal value, int scale, char mode) {
        if (now.numerals.size() == 6) {
            throw new IllegalStateException();
        }
        if (value.setScale(scale, RoundingMode.DOWN).compareTo(value) != 0) {
            throw new UnsupportedOperationException();
        }
        int id = now.nextId;
        List<Numeral> numerals = new ArrayList<>(now.numerals);
        numerals.add(new Numeral(id, value, scale, mode));
        now = new State(numerals, id + 1, now.escapes, now.crumbs, now.accounts.add(value));
        return id;
    }

    private int over(int dividend, int divisor, int scale, char mode) {
        quotientOk(dividend, divisor);
        scaleOk(scale);
        modeOk(mode);
        return enter(new BigDecimal(dividend).divide(new BigDecimal(divisor), scale, rounding(mode)), scale, mode);
    }

    private long free(int number) {
        Numeral numeral = find(number);
        List<Numeral> numerals = new ArrayList<>(now.numerals);
        numerals.remove(numeral);
        now = new State(numerals, now.nextId, now.escapes, now.crumbs, now.accounts.subtract(numeral.value));
        return units(numeral.value);
    }

    private long give(int number, int whole, int fraction) {
        Numeral numeral = find(number);
        BigDecimal amount = amount(whole, fraction);
        now = new State(now.numerals, now.nextId, now.escapes, now.crumbs, now.accounts.add(amount));
        return become(numeral, numeral.value.add(amount));
    }

    private long become(Numeral numeral, BigDecimal sum) {
        return become(numeral, sum, sum.setScale(numeral.scale, rounding(numeral.mode)));
    }

    private long become(Numeral numeral, BigDecimal sum, BigDecimal roundedSum) {
        BigDecimal crumbs = now.crumbs.add(roundedSum).subtract(sum);
        BigDecimal accounts = now.accounts.add(roundedSum).subtract(sum);
        BigDecimal value = roundedSum;
        int escapes = now.escapes;
        if (value.compareTo(LIMIT) >= 0) {
            value = value.subtract(LIMIT);
            accounts = accounts.subtract(LIMIT);
            escapes++;
        }
        now = new State(now.numerals, now.nextId, escapes, crumbs, accounts);
        replace(new Numeral(numeral.id, value, numeral.scale, numeral.mode));
        return units(value);
    }

    private void replace(Numeral numeral) {
        List<Numeral> numerals = new ArrayList<>();
        for (Numeral other : now.numerals) {
            numerals.add(other.id == numeral.id ? numeral : other);
        }
        now = new State(numerals, now.nextId, now.escapes, now.crumbs, now.accounts);
    }

    private long move(int from, int to, int whole, int fraction) {
        Numeral loser = find(from);
        find(to);
        if (from == to) {
            throw new IllegalArgumentException();
        }
        BigDecimal amount = amount(whole, fraction);
        if (loser.value.compareTo(amount) < 0) {
            throw new IllegalStateException();
        }
        if (amount.setScale(loser.scale, RoundingMode.DOWN).compareTo(amount) != 0) {
            throw new UnsupportedOperationException();
        }
        replace(new Numeral(from, loser.value.subtract(amount), loser.scale, loser.mode));
        Numeral winner = find(to);
        return become(winner, winner.value.add(amount));
    }

    private int rescale(int number, int scale) {
        Numeral numeral = find(number);
        scaleOk(scale);
        become(new Numeral(number, numeral.value, scale, numeral.mode), numeral.value);
        return numeral.scale;
    }

    private char remode(int number, char mode) {
        Numeral numeral = find(number);
        modeOk(mode);
        replace(new Numeral(number, numeral.value, numeral.scale, mode));
        return numeral.mode;
    }

    private int together(int scale) {
        scaleOk(scale);
        List<Boolean> ups = bestChoice(scale);
        int count = 0;
        for (int i = 0; i < ups.size(); i++) {
            Numeral numeral = now.numerals.get(i);
            Numeral rescaled = new Numeral(numeral.id, numeral.value, Math.min(scale, numeral.scale), numeral.mode);
            become(rescaled, numeral.value, neighbour(numeral.value, scale, ups.get(i)));
            count += ups.get(i) ? 1 : 0;
        }
        return count;
    }

    // ---- queries about numbers

    int count() {
        return now.numerals.size();
    }

    int numberAt(int position) {
        indexOk(position, now.numerals.size());
        return now.numerals.get(position).id;
    }

    long value(int number) {
        return units(find(number).value);
    }

    int scale(int number) {
        return find(number).scale;
    }

    char mode(int number) {
        return find(number).mode;
    }

    int digit(int number, int place) {
        String digits = digits(find(number).value);
        indexOk(place + 4, 10);
        return digits.charAt(5 - place) - '0';
    }

    int digitSum(int number) {
        return digits(find(number).value).chars().map(c -> c - '0').sum();
    }

    int numberAtRank(int rank) {
        indexOk(rank, now.numerals.size());
        List<Numeral> ranked = new ArrayList<>(now.numerals);
        ranked.sort(Comparator.comparing(Numeral::value).reversed()
                .thenComparing(Comparator.comparing(Numeral::scale).reversed())
                .thenComparing(Numeral::id));
        return ranked.get(rank).id;
    }

    long rounded(int number, int scale, char mode) {
        BigDecimal value = find(number).value;
        scaleOk(scale);
        modeOk(mode);
        return units(value.setScale(scale, rounding(mode)));
    }

    long part(int number, int parts, int index) {
        Numeral numeral = find(number);
        if (parts < 1 || parts > 9) {
            throw new IllegalArgumentException();
        }
        indexOk(index, parts);
        // Steps are dealt one by one, as cards are.
        BigDecimal step = BigDecimal.ONE.movePointLeft(numeral.scale);
        BigInteger steps = numeral.value.divide(step).toBigIntegerExact();
        BigInteger dealt = steps.add(BigInteger.valueOf(parts - 1 - index)).divide(BigInteger.valueOf(parts));
        return units(step.multiply(new BigDecimal(dealt)));
    }

    // ---- queries about carries

    private boolean[] carryingPlaces(int number, int whole, int fraction) {
        String value = digits(find(number).value);
        String amount = digits(amount(whole, fraction));
        boolean[] places = new boolean[10];
        for (int place = 0; place < 10; place++) {
            // A place carries when what stands from it on adds up to more digits than there are.
            long sum = Long.parseLong(value.substring(9 - place)) + Long.parseLong(amount.substring(9 - place));
            places[place] = String.valueOf(sum).length() > place + 1;
        }
        return places;
    }

    int carries(int number, int whole, int fraction) {
        int carries = 0;
        for (boolean carry : carryingPlaces(number, whole, fraction)) {
            carries += carry ? 1 : 0;
        }
        return carries;
    }

    int longestCarry(int number, int whole, int fraction) {
        boolean[] places = carryingPlaces(number, whole, fraction);
        int longest = 0;
        for (int from = 0; from < 10; from++) {
            for (int to = from; to < 10 && places[to]; to++) {
                longest = Math.max(longest, to - from + 1);
            }
        }
        return longest;
    }

    // ---- queries about rounding together

    private static BigDecimal neighbour(BigDecimal value, int scale, boolean isUp) {
        return value.setScale(scale, isUp ? RoundingMode.UP : RoundingMode.DOWN);
    }

    private static boolean isMultiple(BigDecimal value, int scale) {
        return neighbour(value, scale, false).compareTo(value) == 0;
    }

    private List<Boolean> bestChoice(int scale) {
        BigDecimal target = total(now).setScale(scale, RoundingMode.HALF_UP);
        List<Boolean> best = null;
        BigDecimal bestError = null;
        int size = now.numerals.size();
        // Ids stand for bits from the highest on, so of two sets the greater one is preferred.
        for (int set = (1 << size) - 1; set >= 0; set--) {
            List<Boolean> ups = new ArrayList<>();
            BigDecimal sum = BigDecimal.ZERO;
            BigDecimal error = BigDecimal.ZERO;
            boolean isChoice = true;
            for (int i = 0; i < size; i++) {
                BigDecimal value = now.numerals.get(i).value;
                boolean isUp = (set >> (size - 1 - i) & 1) == 1;
                ups.add(isUp);
                isChoice &= !isUp || !isMultiple(value, scale);
                sum = sum.add(neighbour(value, scale, isUp));
                error = error.add(neighbour(value, scale, isUp).subtract(value).abs());
            }
            isChoice &= sum.compareTo(target) == 0;
            if (isChoice && (best == null || error.compareTo(bestError) < 0)) {
                best = ups;
                bestError = error;
            }
        }
        return best;
    }

    long togetherError(int scale) {
        scaleOk(scale);
        List<Boolean> ups = bestChoice(scale);
        BigDecimal error = BigDecimal.ZERO;
        for (int i = 0; i < ups.size(); i++) {
            BigDecimal value = now.numerals.get(i).value;
            error = error.add(neighbour(value, scale, ups.get(i)).subtract(value).abs());
        }
        return units(error);
    }

    boolean goesUp(int number, int scale) {
        Numeral numeral = find(number);
        scaleOk(scale);
        return bestChoice(scale).get(now.numerals.indexOf(numeral));
    }

    // ---- queries about quotients

    /** The digits from some position on, cut from the whole quotient. */
    private static String quotientDigits(int dividend, int divisor, int digits) {
        BigInteger scaled = BigInteger.valueOf(dividend % divisor).multiply(BigInteger.TEN.pow(digits))
                .divide(BigInteger.valueOf(divisor));
        String all = "0".repeat(digits) + scaled;
        return all.substring(all.length() - digits);
    }

    int quotientDigit(int dividend, int divisor, int position) {
        quotientOk(dividend, divisor);
        indexOk(position - 1, 9999);
        return quotientDigits(dividend, divisor, position).charAt(position - 1) - '0';
    }

    private static int exponent(int factor, int number) {
        return number % factor == 0 ? 1 + exponent(factor, number / factor) : 0;
    }

    private static int lowest(int dividend, int divisor) {
        return divisor / BigInteger.valueOf(dividend).gcd(BigInteger.valueOf(divisor)).intValue();
    }

    int preperiod(int dividend, int divisor) {
        quotientOk(dividend, divisor);
        int lowest = lowest(dividend, divisor);
        int twosAndFives = Math.max(exponent(2, lowest), exponent(5, lowest));
        // Zeros recur from there on where the digits end, so the formula holds for these quotients, too.
        return twosAndFives;
    }

    int period(int dividend, int divisor) {
        quotientOk(dividend, divisor);
        int lowest = lowest(dividend, divisor);
        BigInteger factor = BigInteger.valueOf(lowest)
                .divide(BigInteger.TWO.pow(exponent(2, lowest))).divide(BigInteger.valueOf(5).pow(exponent(5, lowest)));
        int period = 1;
        while (BigInteger.TEN.modPow(BigInteger.valueOf(period), factor).compareTo(BigInteger.ONE.mod(factor)) != 0) {
            period++;
        }
        return period;
    }

    // ---- totals

    private static BigDecimal total(State state) {
        return state.numerals.stream().map(Numeral::value).reduce(BigDecimal.ZERO, BigDecimal::add);
    }

    long total() {
        return units(total(now));
    }

    long totalByAccounts() {
        return units(now.accounts);
    }

    int escapes() {
        return now.escapes;
    }

    long crumbs() {
        return units(now.crumbs);
    }

    double meanValue() {
        if (now.numerals.isEmpty()) {
            throw new ArithmeticException();
        }
        return (double) total() / (double) now.numerals.size() / 10000.0;
    }

    float share(int number) {
        long value = value(number);
        if (total() == 0) {
            throw new ArithmeticException();
        }
        return (float) value / (float) total();
    }

    // ---- programs

    int append(char character) {
        if (text.length() == 60) {
            throw new IllegalStateException();
        }
        return text.append(character).length();
    }

    int run() {
        String program = text.toString();
        text.setLength(0);
        if (!PROGRAM.matcher(program).matches()) {
            int viable = 0;
            while (viable < program.length() && isPrefix(program.substring(0, viable + 1))) {
                viable++;
            }
            errorPosition = viable;
            throw new IllegalArgumentException();
        }
        String[] commands = program.split(";");
        return undoable(() -> carryOut(commands));
    }

    private static boolean isPrefix(String start) {
        Matcher matcher = PROGRAM.matcher(start);
        return matcher.matches() || matcher.hitEnd();
    }

    private int carryOut(String[] commands) {
        for (int i = 0; i < commands.length; i++) {
            try {
                obey(commands[i].split("[ /-]"));
            } catch (RuntimeException e) {
                failedCommand = i;
                throw new UnsupportedOperationException();
            }
        }
        return commands.length;
    }

    private void obey(String[] word) {
        switch (word[0]) {
            case "add" -> add(whole(word[1]), fraction(word[1]), whole(word[2]), word[3].charAt(0));
            case "over" -> over(whole(word[1]), whole(word[2]), whole(word[3]), word[4].charAt(0));
            case "free" -> free(whole(word[1]));
            case "feed" -> give(whole(word[1]), whole(word[2]), fraction(word[2]));
            case "trade" -> move(whole(word[1]), whole(word[2]), whole(word[3]), fraction(word[3]));
            case "scale" -> rescale(whole(word[1]), whole(word[2]));
            case "mode" -> remode(whole(word[1]), word[2].charAt(0));
            default -> together(whole(word[1]));
        }
    }

    private static int whole(String decimal) {
        return new BigDecimal(decimal).intValue();
    }

    private static int fraction(String decimal) {
        return (int) (units(new BigDecimal(decimal)) % 10000);
    }

    int errorPosition() {
        return stored(errorPosition);
    }

    int failedCommand() {
        return stored(failedCommand);
    }

    private static int stored(Integer position) {
        if (position == null) {
            throw new NoSuchElementException();
        }
        return position;
    }

    // ---- output

    int writeNumber(int number) {
        Numeral numeral = find(number);
        line = number + ":" + numeral.value.setScale(numeral.scale).toPlainString() + numeral.mode;
        return line.length();
    }

    int writeQuotient(int dividend, int divisor) {
        int preperiod = preperiod(dividend, divisor);
        int period = Math.min(20, period(dividend, divisor));
        String digits = quotientDigits(dividend, divisor, preperiod + period);
        line = dividend / divisor + "." + digits.substring(0, preperiod) + "(" + digits.substring(preperiod) + ")";
        return line.length();
    }

    char outputAt(int index) {
        indexOk(index, line.length());
        return line.charAt(index);
    }

    // ---- undo and snapshot

    int undo() {
        if (before.isEmpty()) {
            throw new IllegalStateException();
        }
        now = before.removeFirst();
        return before.size();
    }

    void save() {
        saved = now;
    }

    void restore() {
        if (saved == null) {
            throw new IllegalStateException();
        }
        now = saved;
        before.clear();
    }

    // ---- conditions and units

    private Numeral find(int number) {
        return now.numerals.stream().filter(n -> n.id == number).findFirst()
                .orElseThrow(NoSuchElementException::new);
    }

    private static BigDecimal amount(int whole, int fraction) {
        if (whole < 0 || whole >= 1000000 || fraction < 0 || fraction >= 10000) {
            throw new IllegalArgumentException();
        }
        return BigDecimal.valueOf(whole * 10000L + fraction, 4);
    }

    private static void scaleOk(int scale) {
        if (scale < 0 || scale >= 5) {
            throw new IllegalArgumentException();
        }
    }

    private static void modeOk(char mode) {
        rounding(mode);
    }

    private static void quotientOk(int dividend, int divisor) {
        if (dividend < 0 || dividend >= 10000 || divisor <= 0 || divisor >= 1000) {
            throw new IllegalArgumentException();
        }
    }

    private static void indexOk(int index, int size) {
        if (index < 0 || index >= size) {
            throw new IndexOutOfBoundsException();
        }
    }

    private static RoundingMode rounding(char mode) {
        return switch (mode) {
            case 'd' -> RoundingMode.DOWN;
            case 'u' -> RoundingMode.UP;
            case 'h' -> RoundingMode.HALF_UP;
            case 'l' -> RoundingMode.HALF_DOWN;
            case 'e' -> RoundingMode.HALF_EVEN;
            default -> throw new IllegalArgumentException();
        };
    }

    private static long units(BigDecimal value) {
        return value.movePointRight(4).longValueExact();
    }

    /** Ten digits, from the place 5 to the place -4. */
    private static String digits(BigDecimal value) {
        return String.format("%010d", units(value));
    }
}
