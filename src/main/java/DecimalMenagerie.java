import java.util.Arrays;
import java.util.NoSuchElementException;

/**
 * A menagerie of at most six decimal numbers, which are fed, traded and rounded; see README.md.
 * Values, amounts and sums are counted in units of one ten-thousandth throughout.
 */
public final class DecimalMenagerie {
    private static final int MOST_NUMBERS = 6;
    private static final int FINEST_SCALE = 4;
    private static final String MODES = "duhle";
    private static final int GREATEST_WHOLE = 999999;
    private static final int GREATEST_FRACTION = 9999;
    private static final int UNITS_OF_ONE = 10000;
    private static final long VALUE_LIMIT = 10000000000L;
    private static final int PLACES_AFTER_POINT = 4;
    private static final int PLACES = 10;
    private static final int MOST_PARTS = 9;
    private static final int GREATEST_DIVIDEND = 9999;
    private static final int GREATEST_DIVISOR = 999;
    private static final int GREATEST_POSITION = 9999;
    private static final int MOST_PERIOD_DIGITS = 20;
    private static final int MOST_CHARACTERS = 60;
    private static final int MOST_UNDOS = 8;
    private static final int NOTHING_STORED = -1;

    private final State state = new State();
    private final State saved = new State();
    private boolean isSaved;
    private final History history = new History();
    private final LongDivision division = new LongDivision();
    private final Program program = new Program();
    private int storedError = NOTHING_STORED;
    private int storedFailure = NOTHING_STORED;
    private final Line line = new Line();

    public DecimalMenagerie() {
    }

    // ---- changes

    public int addNumber(int whole, int fraction, int scale, char mode)
            throws IllegalArgumentException, IllegalStateException, UnsupportedOperationException {
        history.remember(state);
        int id = enterNumber(whole, fraction, scale, mode);
        history.keep();
        return id;
    }

    public int addQuotient(int dividend, int divisor, int scale, char mode)
            throws IllegalArgumentException, IllegalStateException {
        history.remember(state);
        int id = enterQuotient(dividend, divisor, scale, mode);
        history.keep();
        return id;
    }

    public long remove(int number) throws NoSuchElementException {
        history.remember(state);
        long value = releaseNumber(number);
        history.keep();
        return value;
    }

    public long feed(int number, int whole, int fraction)
            throws NoSuchElementException, IllegalArgumentException {
        history.remember(state);
        long value = feedNumber(number, whole, fraction);
        history.keep();
        return value;
    }

    public long trade(int from, int to, int whole, int fraction)
            throws NoSuchElementException, IllegalArgumentException, IllegalStateException,
            UnsupportedOperationException {
        history.remember(state);
        long value = tradeAmount(from, to, whole, fraction);
        history.keep();
        return value;
    }

    public int setScale(int number, int scale) throws NoSuchElementException, IllegalArgumentException {
        history.remember(state);
        int previous = changeScale(number, scale);
        history.keep();
        return previous;
    }

    public char setMode(int number, char mode) throws NoSuchElementException, IllegalArgumentException {
        history.remember(state);
        char previous = changeMode(number, mode);
        history.keep();
        return previous;
    }

    public int roundTogether(int scale) throws IllegalArgumentException {
        history.remember(state);
        int ups = roundAll(scale);
        history.keep();
        return ups;
    }

    // The changes themselves keep no undo step, because a program's commands are one step together.
    // Each of them looks at all its conditions before it changes anything.

    private int enterNumber(int whole, int fraction, int scale, char mode) {
        requireAmount(whole, fraction);
        requireScale(scale);
        requireMode(mode);
        requireRoom();
        long value = unitsOf(whole, fraction);
        if (value % Rounding.stepOf(scale) != 0) {
            throw new UnsupportedOperationException("the value is not a multiple of the step");
        }
        return state.enter(value, scale, mode);
    }

    private int enterQuotient(int dividend, int divisor, int scale, char mode) {
        requireQuotient(dividend, divisor);
        requireScale(scale);
        requireMode(mode);
        requireRoom();
        return state.enter(Rounding.ofQuotient(dividend, divisor, scale, mode), scale, mode);
    }

    private long releaseNumber(int number) {
        return state.takeOut(requirePosition(number));
    }

    private long feedNumber(int number, int whole, int fraction) {
        int position = requirePosition(number);
        requireAmount(whole, fraction);
        long amount = unitsOf(whole, fraction);
        state.fed += amount;
        return state.becomeRounded(position, state.values[position] + amount);
    }

    private long tradeAmount(int from, int to, int whole, int fraction) {
        int loser = requirePosition(from);
        int winner = requirePosition(to);
        if (loser == winner) {
            throw new IllegalArgumentException("a number cannot trade with itself");
        }
        requireAmount(whole, fraction);
        long amount = unitsOf(whole, fraction);
        if (state.values[loser] < amount) {
            throw new IllegalStateException("the value is less than the amount");
        }
        if (amount % Rounding.stepOf(state.scales[loser]) != 0) {
            throw new UnsupportedOperationException("the amount is not a multiple of the step");
        }
        state.values[loser] -= amount;
        return state.becomeRounded(winner, state.values[winner] + amount);
    }

    private int changeScale(int number, int scale) {
        int position = requirePosition(number);
        requireScale(scale);
        int previous = state.scales[position];
        state.scales[position] = scale;
        state.becomeRounded(position, state.values[position]);
        return previous;
    }

    private char changeMode(int number, char mode) {
        int position = requirePosition(number);
        requireMode(mode);
        char previous = state.modes[position];
        state.modes[position] = mode;
        return previous;
    }

    private int roundAll(int scale) {
        requireScale(scale);
        int ups = Together.bestChoice(state, scale);
        for (int position = 0; position < state.count; position++) {
            long value = state.values[position];
            state.become(position, value, Together.roundedBy(ups, position, value, scale));
            state.scales[position] = Math.min(state.scales[position], scale);
        }
        return Integer.bitCount(ups);
    }

    // ---- queries about numbers

    public int count() {
        return state.count;
    }

    public int numberAt(int position) throws IndexOutOfBoundsException {
        if (position < 0 || position >= state.count) {
            throw new IndexOutOfBoundsException("no number at this position");
        }
        return state.ids[position];
    }

    public long value(int number) throws NoSuchElementException {
        return state.values[requirePosition(number)];
    }

    public int scale(int number) throws NoSuchElementException {
        return state.scales[requirePosition(number)];
    }

    public char mode(int number) throws NoSuchElementException {
        return state.modes[requirePosition(number)];
    }

    public int digit(int number, int place) throws NoSuchElementException, IndexOutOfBoundsException {
        int position = requirePosition(number);
        if (place < -PLACES_AFTER_POINT || place >= PLACES - PLACES_AFTER_POINT) {
            throw new IndexOutOfBoundsException("no such place");
        }
        return digitAt(state.values[position], place + PLACES_AFTER_POINT);
    }

    public int digitSum(int number) throws NoSuchElementException {
        return sumOfDigits(state.values[requirePosition(number)]);
    }

    public int numberAtRank(int rank) throws IndexOutOfBoundsException {
        for (int position = 0; position < state.count; position++) {
            if (state.rankOf(position) == rank) {
                return state.ids[position];
            }
        }
        throw new IndexOutOfBoundsException("no number at this rank");
    }

    public long rounded(int number, int scale, char mode)
            throws NoSuchElementException, IllegalArgumentException {
        int position = requirePosition(number);
        requireScale(scale);
        requireMode(mode);
        return Rounding.ofSum(state.values[position], scale, mode);
    }

    public long part(int number, int parts, int index)
            throws NoSuchElementException, IllegalArgumentException, IndexOutOfBoundsException {
        int position = requirePosition(number);
        if (parts < 1 || parts > MOST_PARTS) {
            throw new IllegalArgumentException("no such number of parts");
        }
        if (index < 0 || index >= parts) {
            throw new IndexOutOfBoundsException("no such part");
        }
        long step = Rounding.stepOf(state.scales[position]);
        long steps = state.values[position] / step;
        long stepsLeftOver = steps % parts;
        return (steps / parts + (index < stepsLeftOver ? 1 : 0)) * step;
    }

    // ---- queries about carries

    public int carries(int number, int whole, int fraction)
            throws NoSuchElementException, IllegalArgumentException {
        int position = requirePosition(number);
        requireAmount(whole, fraction);
        return Integer.bitCount(carryingPlaces(state.values[position], unitsOf(whole, fraction)));
    }

    public int carriesBySums(int number, int whole, int fraction)
            throws NoSuchElementException, IllegalArgumentException {
        int position = requirePosition(number);
        requireAmount(whole, fraction);
        return carriesByDigitSums(state.values[position], unitsOf(whole, fraction));
    }

    public int longestCarry(int number, int whole, int fraction)
            throws NoSuchElementException, IllegalArgumentException {
        int position = requirePosition(number);
        requireAmount(whole, fraction);
        int places = carryingPlaces(state.values[position], unitsOf(whole, fraction));
        int longest = 0;
        int inARow = 0;
        for (int place = 0; place < PLACES; place++) {
            inARow = (places >> place & 1) == 1 ? inARow + 1 : 0;
            longest = Math.max(longest, inARow);
        }
        return longest;
    }

    // ---- queries about rounding together

    public long togetherError(int scale) throws IllegalArgumentException {
        requireScale(scale);
        return Together.errorOf(state, scale, Together.bestChoice(state, scale));
    }

    public long togetherErrorBySets(int scale) throws IllegalArgumentException {
        requireScale(scale);
        return Together.leastErrorOfSets(state, scale);
    }

    public boolean goesUp(int number, int scale) throws NoSuchElementException, IllegalArgumentException {
        int position = requirePosition(number);
        requireScale(scale);
        return Together.isUp(Together.bestChoice(state, scale), position);
    }

    // ---- queries about quotients

    public int quotientDigit(int dividend, int divisor, int position)
            throws IllegalArgumentException, IndexOutOfBoundsException {
        requireQuotient(dividend, divisor);
        if (position < 1 || position > GREATEST_POSITION) {
            throw new IndexOutOfBoundsException("no such position");
        }
        int remainder = dividend % divisor;
        for (int passed = 1; passed < position; passed++) {
            remainder = remainder * 10 % divisor;
        }
        return remainder * 10 / divisor;
    }

    public int preperiod(int dividend, int divisor) throws IllegalArgumentException {
        requireQuotient(dividend, divisor);
        division.divide(dividend, divisor);
        return division.digitsBefore;
    }

    public int period(int dividend, int divisor) throws IllegalArgumentException {
        requireQuotient(dividend, divisor);
        division.divide(dividend, divisor);
        return division.digitsRecurring;
    }

    public int periodByPowers(int dividend, int divisor) throws IllegalArgumentException {
        requireQuotient(dividend, divisor);
        return LongDivision.orderOfTen(LongDivision.recurringFactor(dividend, divisor));
    }

    // ---- totals

    public long total() {
        return state.sumOfValues();
    }

    public long totalByAccounts() {
        return state.sumByAccounts();
    }

    public int escapes() {
        return state.escaped;
    }

    public long crumbs() {
        return state.fallen;
    }

    public double meanValue() throws ArithmeticException {
        if (state.count == 0) {
            throw new ArithmeticException("no numbers have no mean");
        }
        return (double) state.sumOfValues() / (double) state.count / 10000.0;
    }

    public float share(int number) throws NoSuchElementException, ArithmeticException {
        int position = requirePosition(number);
        long sum = state.sumOfValues();
        if (sum == 0) {
            throw new ArithmeticException("nothing has no shares");
        }
        return (float) state.values[position] / (float) sum;
    }

    public boolean isConsistent() {
        return state.sumOfValues() == state.sumByAccounts()
                && state.fitsSteps() && errorsAgree() && carriesAgree();
    }

    private boolean errorsAgree() {
        for (int scale = 0; scale <= FINEST_SCALE; scale++) {
            long error = Together.errorOf(state, scale, Together.bestChoice(state, scale));
            if (error != Together.leastErrorOfSets(state, scale)) {
                return false;
            }
        }
        return true;
    }

    private boolean carriesAgree() {
        long amount = unitsOf(1, 9999);
        for (int position = 0; position < state.count; position++) {
            long value = state.values[position];
            if (Integer.bitCount(carryingPlaces(value, amount)) != carriesByDigitSums(value, amount)) {
                return false;
            }
        }
        return true;
    }

    // ---- programs

    public int append(char character) throws IllegalStateException {
        if (program.isFull()) {
            throw new IllegalStateException("the text buffer is full");
        }
        program.put(character);
        return program.length;
    }

    public int run() throws IllegalArgumentException, UnsupportedOperationException {
        boolean isProgram = program.read();
        program.length = 0;
        if (!isProgram) {
            storedError = program.position;
            throw new IllegalArgumentException("the text is not a program");
        }
        history.remember(state);
        for (int index = 0; index < program.commandCount; index++) {
            if (!succeeds(program.commands[index])) {
                history.takeBack(state);
                storedFailure = index;
                throw new UnsupportedOperationException("a command fails");
            }
        }
        history.keep();
        return program.commandCount;
    }

    private boolean succeeds(Command command) {
        try {
            carryOut(command);
            return true;
        } catch (NoSuchElementException e) {
            return false;
        } catch (IllegalArgumentException e) {
            return false;
        } catch (IllegalStateException e) {
            return false;
        } catch (UnsupportedOperationException e) {
            return false;
        }
    }

    private void carryOut(Command command) {
        switch (command.kind) {
            case ADD:
                enterNumber(command.whole, command.fraction, command.scale, command.mode);
                break;
            case OVER:
                enterQuotient(command.first, command.second, command.scale, command.mode);
                break;
            case FREE:
                releaseNumber(command.first);
                break;
            case FEED:
                feedNumber(command.first, command.whole, command.fraction);
                break;
            case TRADE:
                tradeAmount(command.first, command.second, command.whole, command.fraction);
                break;
            case SCALE:
                changeScale(command.first, command.scale);
                break;
            case MODE:
                changeMode(command.first, command.mode);
                break;
            default:
                roundAll(command.scale);
                break;
        }
    }

    public int errorPosition() throws NoSuchElementException {
        if (storedError == NOTHING_STORED) {
            throw new NoSuchElementException("no error position was stored");
        }
        return storedError;
    }

    public int failedCommand() throws NoSuchElementException {
        if (storedFailure == NOTHING_STORED) {
            throw new NoSuchElementException("no failed command was stored");
        }
        return storedFailure;
    }

    // ---- output

    public int writeNumber(int number) throws NoSuchElementException {
        int position = requirePosition(number);
        long value = state.values[position];
        line.length = 0;
        line.putWhole(number);
        line.put(':');
        line.putWhole(value / UNITS_OF_ONE);
        if (state.scales[position] > 0) {
            line.put('.');
        }
        for (int place = 1; place <= state.scales[position]; place++) {
            line.putDigit(digitAt(value, PLACES_AFTER_POINT - place));
        }
        line.put(state.modes[position]);
        return line.length;
    }

    public int writeQuotient(int dividend, int divisor) throws IllegalArgumentException {
        requireQuotient(dividend, divisor);
        division.divide(dividend, divisor);
        line.length = 0;
        line.putWhole(dividend / divisor);
        line.put('.');
        int remainder = line.putQuotientDigits(dividend % divisor, divisor, division.digitsBefore);
        line.put('(');
        line.putQuotientDigits(remainder, divisor, Math.min(division.digitsRecurring, MOST_PERIOD_DIGITS));
        line.put(')');
        return line.length;
    }

    public char outputAt(int index) throws IndexOutOfBoundsException {
        if (index < 0 || index >= line.length) {
            throw new IndexOutOfBoundsException("no character at this index");
        }
        return line.characters[index];
    }

    // ---- undo and snapshot

    public int undo() throws IllegalStateException {
        if (history.undoable == 0) {
            throw new IllegalStateException("no call can be undone");
        }
        history.goBack(state);
        return history.undoable;
    }

    public void save() {
        saved.copyFrom(state);
        isSaved = true;
    }

    public void restore() throws IllegalStateException {
        if (!isSaved) {
            throw new IllegalStateException("no state was saved");
        }
        state.copyFrom(saved);
        history.undoable = 0;
    }

    // ---- conditions

    private int requirePosition(int number) {
        for (int position = 0; position < state.count; position++) {
            if (state.ids[position] == number) {
                return position;
            }
        }
        throw new NoSuchElementException("no number with this id");
    }

    private void requireRoom() {
        if (state.count >= MOST_NUMBERS) {
            throw new IllegalStateException("there are 6 numbers");
        }
    }

    private static void requireAmount(int whole, int fraction) {
        if (whole < 0 || whole > GREATEST_WHOLE || fraction < 0 || fraction > GREATEST_FRACTION) {
            throw new IllegalArgumentException("the whole part or the fraction is out of range");
        }
    }

    private static void requireScale(int scale) {
        if (scale < 0 || scale > FINEST_SCALE) {
            throw new IllegalArgumentException("the scale is out of range");
        }
    }

    private static void requireMode(char mode) {
        if (MODES.indexOf(mode) < 0) {
            throw new IllegalArgumentException("no such mode");
        }
    }

    private static void requireQuotient(int dividend, int divisor) {
        if (dividend < 0 || dividend > GREATEST_DIVIDEND || divisor < 1 || divisor > GREATEST_DIVISOR) {
            throw new IllegalArgumentException("the dividend or the divisor is out of range");
        }
    }

    // ---- units and digits

    private static long unitsOf(int whole, int fraction) {
        return (long) whole * UNITS_OF_ONE + fraction;
    }

    /** The digit of a number that is not negative, at an index counted from its last digit. */
    private static int digitAt(long number, int index) {
        long rest = number;
        for (int passed = 0; passed < index; passed++) {
            rest /= 10;
        }
        return (int) (rest % 10);
    }

    private static int sumOfDigits(long number) {
        int sum = 0;
        // A sum of two values can have one place more than a value.
        for (int index = 0; index <= PLACES; index++) {
            sum += digitAt(number, index);
        }
        return sum;
    }

    /** The places that carry, as a set of bits; bit 0 stands for the place -4. */
    private static int carryingPlaces(long value, long amount) {
        int places = 0;
        int carry = 0;
        for (int index = 0; index < PLACES; index++) {
            carry = digitAt(value, index) + digitAt(amount, index) + carry > 9 ? 1 : 0;
            places |= carry << index;
        }
        return places;
    }

    private static int carriesByDigitSums(long value, long amount) {
        // A carry turns ten at its place into one at the next, so it takes nine from the digits.
        return (sumOfDigits(value) + sumOfDigits(amount) - sumOfDigits(value + amount)) / 9;
    }

    /** All that undo, save and restore concern: the numbers in ascending order of ids, and the accounts. */
    private static final class State {
        private final int[] ids = new int[MOST_NUMBERS];
        private final long[] values = new long[MOST_NUMBERS];
        private final int[] scales = new int[MOST_NUMBERS];
        private final char[] modes = new char[MOST_NUMBERS];
        private int count;
        private int nextId;
        private int escaped;
        private long fallen;
        private long added;
        private long fed;
        private long removed;

        void copyFrom(State other) {
            System.arraycopy(other.ids, 0, ids, 0, MOST_NUMBERS);
            System.arraycopy(other.values, 0, values, 0, MOST_NUMBERS);
            System.arraycopy(other.scales, 0, scales, 0, MOST_NUMBERS);
            System.arraycopy(other.modes, 0, modes, 0, MOST_NUMBERS);
            count = other.count;
            nextId = other.nextId;
            escaped = other.escaped;
            fallen = other.fallen;
            added = other.added;
            fed = other.fed;
            removed = other.removed;
        }

        int enter(long value, int scale, char mode) {
            int id = nextId;
            ids[count] = id;
            values[count] = value;
            scales[count] = scale;
            modes[count] = mode;
            count++;
            nextId++;
            added += value;
            return id;
        }

        long takeOut(int position) {
            long value = values[position];
            for (int next = position + 1; next < count; next++) {
                ids[next - 1] = ids[next];
                values[next - 1] = values[next];
                scales[next - 1] = scales[next];
                modes[next - 1] = modes[next];
            }
            count--;
            removed += value;
            return value;
        }

        long becomeRounded(int position, long sum) {
            become(position, sum, Rounding.ofSum(sum, scales[position], modes[position]));
            return values[position];
        }

        void become(int position, long exact, long roundedSum) {
            fallen += roundedSum - exact;
            values[position] = roundedSum;
            if (roundedSum >= VALUE_LIMIT) {
                values[position] = roundedSum - VALUE_LIMIT;
                escaped++;
            }
        }

        int rankOf(int position) {
            int rank = 0;
            for (int other = 0; other < count; other++) {
                if (isAhead(other, position)) {
                    rank++;
                }
            }
            return rank;
        }

        private boolean isAhead(int one, int other) {
            if (values[one] != values[other]) {
                return values[one] > values[other];
            }
            if (scales[one] != scales[other]) {
                return scales[one] > scales[other];
            }
            return one < other;
        }

        boolean fitsSteps() {
            for (int position = 0; position < count; position++) {
                if (values[position] % Rounding.stepOf(scales[position]) != 0) {
                    return false;
                }
            }
            return true;
        }

        long sumOfValues() {
            long sum = 0;
            for (int position = 0; position < count; position++) {
                sum += values[position];
            }
            return sum;
        }

        long sumByAccounts() {
            return added + fed + fallen - removed - VALUE_LIMIT * escaped;
        }
    }

    /** Rounding of one sum or quotient to a scale with a mode. */
    private static final class Rounding {
        private Rounding() {
        }

        static long stepOf(int scale) {
            switch (scale) {
                case 0:
                    return 10000;
                case 1:
                    return 1000;
                case 2:
                    return 100;
                case 3:
                    return 10;
                default:
                    return 1;
            }
        }

        static long ofSum(long sum, int scale, char mode) {
            long step = stepOf(scale);
            long below = sum / step;
            return (goesAbove(below, sum % step, step, mode) ? below + 1 : below) * step;
        }

        /** The quotient is never made a number of units itself, as its digits may have no end. */
        static long ofQuotient(int dividend, int divisor, int scale, char mode) {
            long step = stepOf(scale);
            long units = (long) dividend * UNITS_OF_ONE;
            long piece = divisor * step;
            if (piece < 1) {
                return 0;
            }
            long below = units / piece;
            return (goesAbove(below, units % piece, piece, mode) ? below + 1 : below) * step;
        }

        /** Whether a rest of a piece above the smaller neighbour, a multiple of it, is rounded up. */
        private static boolean goesAbove(long multiple, long rest, long piece, char mode) {
            if (rest == 0 || mode == 'd') {
                return false;
            }
            if (mode == 'u') {
                return true;
            }
            long beyondHalf = 2 * rest - piece;
            if (beyondHalf != 0) {
                return beyondHalf > 0;
            }
            return mode == 'h' || mode == 'e' && multiple % 2 != 0;
        }
    }

    /** Rounding of all numbers so that their sum stays right; a choice is the set of bits of what goes up. */
    private static final class Together {
        private Together() {
        }

        static boolean isUp(int choice, int position) {
            return (choice >> position & 1) == 1;
        }

        static long roundedBy(int choice, int position, long value, int scale) {
            long step = Rounding.stepOf(scale);
            long below = value - value % step;
            return isUp(choice, position) ? below + step : below;
        }

        private static long sumOf(State state, int scale, int choice) {
            long sum = 0;
            for (int position = 0; position < state.count; position++) {
                sum += roundedBy(choice, position, state.values[position], scale);
            }
            return sum;
        }

        static long errorOf(State state, int scale, int choice) {
            long error = 0;
            for (int position = 0; position < state.count; position++) {
                long value = state.values[position];
                error += Math.abs(roundedBy(choice, position, value, scale) - value);
            }
            return error;
        }

        static int bestChoice(State state, int scale) {
            long step = Rounding.stepOf(scale);
            long rests = 0;
            for (int position = 0; position < state.count; position++) {
                rests += state.values[position] % step;
            }
            // All smaller neighbours are multiples of the step, so the target rounds nothing but the rests.
            long ups = Rounding.ofSum(rests, scale, 'h') / step;
            int choice = 0;
            for (int chosen = 0; chosen < ups && chosen < MOST_NUMBERS; chosen++) {
                choice |= nearestToUp(state, step, choice);
            }
            return choice;
        }

        /** The bit of the number with the greatest rest that is not chosen yet; the lowest id among equals. */
        private static int nearestToUp(State state, long step, int choice) {
            long greatest = 0;
            int nearest = 0;
            for (int position = 0; position < state.count; position++) {
                long rest = state.values[position] % step;
                if (rest > greatest && !isUp(choice, position)) {
                    greatest = rest;
                    nearest = 1 << position;
                }
            }
            return nearest;
        }

        static long leastErrorOfSets(State state, int scale) {
            long target = Rounding.ofSum(state.sumOfValues(), scale, 'h');
            long least = Long.MAX_VALUE;
            for (int set = 0; set < 1 << state.count; set++) {
                if (hasOnlyRests(state, scale, set) && sumOf(state, scale, set) == target) {
                    least = Math.min(least, errorOf(state, scale, set));
                }
            }
            return least;
        }

        /** Whether no multiple of the step would go up, which has no greater neighbour to go to. */
        private static boolean hasOnlyRests(State state, int scale, int set) {
            long step = Rounding.stepOf(scale);
            for (int position = 0; position < state.count; position++) {
                if (isUp(set, position) && state.values[position] % step == 0) {
                    return false;
                }
            }
            return true;
        }
    }

    /** Finds where the digits of a quotient begin to recur, and after how many they come again. */
    private static final class LongDivision {
        private static final int UNSEEN = -1;

        private final int[] seenAfter = new int[GREATEST_DIVISOR + 1];
        private int digitsBefore;
        private int digitsRecurring;

        void divide(int dividend, int divisor) {
            Arrays.fill(seenAfter, UNSEEN);
            int remainder = dividend % divisor;
            int digits = 0;
            while (digits <= divisor && seenAfter[remainder] == UNSEEN) {
                seenAfter[remainder] = digits;
                remainder = remainder * 10 % divisor;
                digits++;
            }
            digitsBefore = seenAfter[remainder];
            digitsRecurring = digits - digitsBefore;
        }

        /** The divisor of the quotient in lowest terms without its factors 2 and 5. */
        static int recurringFactor(int dividend, int divisor) {
            int common = commonDivisor(dividend, divisor);
            int lowest = common < 1 ? divisor : divisor / common;
            return without(5, without(2, lowest));
        }

        private static int commonDivisor(int one, int other) {
            int greater = one;
            int smaller = other;
            // Each second round halves the remainder, so far fewer rounds are needed.
            for (int round = 0; round < 100 && smaller != 0; round++) {
                int remainder = greater % smaller;
                greater = smaller;
                smaller = remainder;
            }
            return greater;
        }

        private static int without(int factor, int number) {
            int rest = number;
            // No number up to 999 has a factor ten times.
            for (int round = 0; round < 10 && rest % factor == 0; round++) {
                rest /= factor;
            }
            return rest;
        }

        /** The smallest exponent, at least 1, whose power of ten leaves 1 when divided by the modulus. */
        static int orderOfTen(int modulus) {
            if (modulus < 1) {
                return 1;
            }
            int power = 10 % modulus;
            int exponent = 1;
            while (exponent < modulus && power != 1 % modulus) {
                power = power * 10 % modulus;
                exponent++;
            }
            return exponent;
        }
    }

    /** The states before the latest changes, in a ring with one slot to spare for the change under way. */
    private static final class History {
        private final State[] slots = new State[MOST_UNDOS + 1];
        private int spare;
        private int undoable;

        History() {
            for (int slot = 0; slot < slots.length; slot++) {
                slots[slot] = new State();
            }
        }

        void remember(State state) {
            slots[spare].copyFrom(state);
        }

        void takeBack(State state) {
            state.copyFrom(slots[spare]);
        }

        void keep() {
            spare = spare == MOST_UNDOS ? 0 : spare + 1;
            undoable = Math.min(undoable + 1, MOST_UNDOS);
        }

        void goBack(State state) {
            spare = spare == 0 ? MOST_UNDOS : spare - 1;
            undoable--;
            takeBack(state);
        }
    }

    private enum Kind {
        ADD("add "),
        OVER("over "),
        FREE("free "),
        FEED("feed "),
        TRADE("trade "),
        SCALE("scale "),
        MODE("mode "),
        TOGETHER("together ");

        private final String word;

        Kind(String word) {
            this.word = word;
        }
    }

    /** What a command says; what its kind does not speak of keeps what an earlier command said. */
    private static final class Command {
        private Kind kind = Kind.ADD;
        private int first;
        private int second;
        private int whole;
        private int fraction;
        private int scale;
        private char mode;
    }

    /** The text buffer and its reader. Each read function stops at the first character that does not fit. */
    private static final class Program {
        private static final Kind[] KINDS = Kind.values();
        private static final int MOST_NUMBER_DIGITS = 6;
        private static final int NONE = -1;
        // A command and its ";" take 7 characters at least, and a last one may stand there unfinished.
        private static final int MOST_COMMANDS = MOST_CHARACTERS / 7 + 1;

        private final char[] text = new char[MOST_CHARACTERS];
        private int length;
        private int position;
        private final Command[] commands = new Command[MOST_COMMANDS];
        private int commandCount;

        Program() {
            for (int index = 0; index < commands.length; index++) {
                commands[index] = new Command();
            }
        }

        boolean isFull() {
            return length >= MOST_CHARACTERS;
        }

        void put(char character) {
            text[length] = character;
            length++;
        }

        /** Whether the text is a program; if not, the position is the error position. */
        boolean read() {
            position = 0;
            commandCount = 0;
            while (commandCount < MOST_COMMANDS) {
                if (!readCommand(commands[commandCount])) {
                    return false;
                }
                commandCount++;
                if (position == length) {
                    return true;
                }
                if (!readCharacter(';')) {
                    return false;
                }
            }
            return false;
        }

        private boolean readCommand(Command command) {
            Kind kind = readKind();
            if (kind == null) {
                return false;
            }
            command.kind = kind;
            switch (kind) {
                case ADD:
                    return readDecimal(command) && readCharacter(' ') && readScaleAndMode(command);
                case OVER:
                    return readFirst(command) && readCharacter('/') && readSecond(command)
                            && readCharacter(' ') && readScaleAndMode(command);
                case FREE:
                    return readFirst(command);
                case FEED:
                    return readFirst(command) && readCharacter(' ') && readDecimal(command);
                case TRADE:
                    return readFirst(command) && readCharacter('-') && readSecond(command)
                            && readCharacter(' ') && readDecimal(command);
                case SCALE:
                    return readFirst(command) && readCharacter(' ') && readScale(command);
                case MODE:
                    return readFirst(command) && readCharacter(' ') && readMode(command);
                default:
                    return readScale(command);
            }
        }

        /** The kind whose word comes next, or null; then the position is behind all that some word fits. */
        private Kind readKind() {
            int longest = 0;
            for (int index = 0; index < KINDS.length; index++) {
                int fitting = fittingCharacters(KINDS[index].word);
                if (fitting == KINDS[index].word.length()) {
                    position += fitting;
                    return KINDS[index];
                }
                longest = Math.max(longest, fitting);
            }
            position += longest;
            return null;
        }

        private int fittingCharacters(String word) {
            int fitting = 0;
            while (fitting < word.length() && position + fitting < length
                    && text[position + fitting] == word.charAt(fitting)) {
                fitting++;
            }
            return fitting;
        }

        private boolean readCharacter(char character) {
            if (position >= length || text[position] != character) {
                return false;
            }
            position++;
            return true;
        }

        /** The digit that comes next, or NONE. */
        private int readDigit() {
            if (position >= length || text[position] < '0' || text[position] > '9') {
                return NONE;
            }
            position++;
            return text[position - 1] - '0';
        }

        /** The number that comes next, or NONE. */
        private int readNumber() {
            int number = readDigit();
            int digit = number;
            for (int digits = 1; digits < MOST_NUMBER_DIGITS && digit != NONE; digits++) {
                digit = readDigit();
                number = digit == NONE ? number : number * 10 + digit;
            }
            return number;
        }

        private boolean readFirst(Command command) {
            command.first = readNumber();
            return command.first != NONE;
        }

        private boolean readSecond(Command command) {
            command.second = readNumber();
            return command.second != NONE;
        }

        private boolean readDecimal(Command command) {
            command.whole = readNumber();
            command.fraction = 0;
            if (command.whole == NONE) {
                return false;
            }
            return !readCharacter('.') || readFraction(command);
        }

        private boolean readFraction(Command command) {
            int digit = readDigit();
            if (digit == NONE) {
                return false;
            }
            int fraction = digit;
            for (int digits = 1; digits < PLACES_AFTER_POINT; digits++) {
                digit = digit == NONE ? NONE : readDigit();
                fraction = fraction * 10 + Math.max(digit, 0);
            }
            command.fraction = fraction;
            return true;
        }

        private boolean readScaleAndMode(Command command) {
            return readScale(command) && readCharacter(' ') && readMode(command);
        }

        private boolean readScale(Command command) {
            command.scale = readDigit();
            return command.scale != NONE;
        }

        private boolean readMode(Command command) {
            if (position >= length || MODES.indexOf(text[position]) < 0) {
                return false;
            }
            command.mode = text[position];
            position++;
            return true;
        }
    }

    /** The output line. */
    private static final class Line {
        private static final int MOST_LENGTH = 64;
        private static final int MOST_WHOLE_DIGITS = 10;

        private final char[] characters = new char[MOST_LENGTH];
        private int length;

        void put(char character) {
            if (length < MOST_LENGTH) {
                characters[length] = character;
                length++;
            }
        }

        void putDigit(int digit) {
            put((char) ('0' + digit));
        }

        void putWhole(long number) {
            boolean isLeading = true;
            for (int index = MOST_WHOLE_DIGITS - 1; index >= 0; index--) {
                int digit = digitAt(number, index);
                isLeading = isLeading && digit == 0 && index > 0;
                if (!isLeading) {
                    putDigit(digit);
                }
            }
        }

        /** Goes on with a long division for some digits; answers the remainder that is left. */
        int putQuotientDigits(int firstRemainder, int divisor, int digits) {
            int remainder = firstRemainder;
            for (int written = 0; written < digits; written++) {
                putDigit(remainder * 10 / divisor);
                remainder = remainder * 10 % divisor;
            }
            return remainder;
        }
    }
}
