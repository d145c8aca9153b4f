/**
 * Reduces reflections of crystals: the group of a space from a symbol of its
 * generators, what it does to indices, and the reflections of files, merged by it.
 *
 * All memory is made with the object and used again, so that no call makes anything
 * but an exception.
 */
public final class ReflectionReducer {
    public static final int NONE = -1, TOO_LARGE = -9001;

    private static final int MOST_BYTES = 8000;
    private static final int BYTES_OF_A_FEED = 20;
    private static final int MOST_OPERATORS = 192;
    private static final int MOST_REFLECTIONS = 3000;
    private static final int MOST_INDEX = 127;
    private static final int MOST_BOX = 12;
    private static final int MOST_SIGMAS = 100;

    private final Tape tape;
    private final GroupMaker maker;
    private final SymbolReader symbolReader;
    private final Group group;
    private final Reflections kept;
    private final FileReader fileReader;
    private final Rows merged;
    private final Violations found;

    public ReflectionReducer() {
        tape = new Tape();
        maker = new GroupMaker();
        symbolReader = new SymbolReader(tape, maker);
        group = new Group();
        kept = new Reflections();
        fileReader = new FileReader(tape, kept);
        merged = new Rows();
        found = new Violations();
    }

    public int feed(int a, int b, int c, int d, int e) throws IllegalStateException {
        if (tape.length > MOST_BYTES - BYTES_OF_A_FEED) {
            throw new IllegalStateException("the tape has no room for twenty bytes more");
        }
        tape.append(a);
        tape.append(b);
        tape.append(c);
        tape.append(d);
        tape.append(e);
        return tape.length;
    }

    public void end(int n) throws IllegalArgumentException {
        if (n < 0 || n > tape.length) {
            throw new IllegalArgumentException("the tape has not that many bytes");
        }
        tape.length = n;
    }

    public int symbol() {
        boolean isSymbol = symbolReader.readTape();
        tape.length = 0;
        if (!isSymbol) {
            return -1 - symbolReader.place;
        }
        if (!maker.makesGroup()) {
            return TOO_LARGE;
        }
        group.become(maker);
        merged.clear();
        return 0;
    }

    public int order() {
        return group.size;
    }

    public int op(int i, int k) throws IndexOutOfBoundsException {
        if (!group.has(i) || k < 0 || k >= Group.NUMBERS) {
            throw new IndexOutOfBoundsException("no such operator, or number of it");
        }
        return group.number(i, k);
    }

    public int laue() {
        return group.laueClass();
    }

    public int plain(int sign) {
        if (sign != 1 && sign != -1) {
            return 0;
        }
        return group.countPlain(sign);
    }

    public int sent(int i, int h, int k, int l, int what)
            throws IndexOutOfBoundsException, IllegalArgumentException {
        if (!group.has(i) || what < 0 || what > 3) {
            throw new IndexOutOfBoundsException("no such operator, or number of an index");
        }
        requireIndex(h, k, l);
        if (what == 3) {
            return group.phase(i, h, k, l);
        }
        return group.sentNumber(i, what, h, k, l);
    }

    public int absent(int h, int k, int l) throws IllegalStateException, IllegalArgumentException {
        requireGroup();
        requireIndex(h, k, l);
        return group.isAbsent(h, k, l) ? 1 : 0;
    }

    public int greatest(int h, int k, int l, int what)
            throws IllegalStateException, IllegalArgumentException, IndexOutOfBoundsException {
        requireGroup();
        requireIndex(h, k, l);
        if (what < 0 || what > 3) {
            throw new IndexOutOfBoundsException("no such number of a kind");
        }
        if (what == 3) {
            return group.multiplicity(h, k, l);
        }
        return Index.part(group.greatestOf(h, k, l), what);
    }

    public int file() {
        int answer = fileReader.readTape();
        tape.length = 0;
        return answer;
    }

    public int drop() {
        int dropped = kept.count;
        kept.count = 0;
        merged.clear();
        return dropped;
    }

    public int reflections() {
        return kept.count;
    }

    public int reflection(int i, int what) throws IndexOutOfBoundsException {
        if (i < 0 || i >= kept.count || what < 0 || what > 4) {
            throw new IndexOutOfBoundsException("no such reflection, or number of it");
        }
        return kept.number(i, what);
    }

    public int merge() throws IllegalStateException {
        requireGroup();
        merged.mergeAll(kept, group);
        return merged.count;
    }

    public int rows() {
        return merged.count;
    }

    public long row(int i, int what) throws IndexOutOfBoundsException {
        if (i < 0 || i >= merged.count || what < 0 || what > 9) {
            throw new IndexOutOfBoundsException("no such row, or number of it");
        }
        return merged.number(i, what);
    }

    public int digits(int what) throws IndexOutOfBoundsException {
        requirePartOfQuotient(what);
        if (!merged.quotient.known) {
            return NONE;
        }
        return merged.quotient.part(what).countDigits();
    }

    public int digit(int what, int k) throws IndexOutOfBoundsException {
        requirePartOfQuotient(what);
        if (!merged.quotient.known) {
            return 0;
        }
        return merged.quotient.part(what).digitAt(k);
    }

    public int violations(int m) throws IllegalStateException, IllegalArgumentException {
        requireGroup();
        if (m < 0 || m > MOST_SIGMAS) {
            throw new IllegalArgumentException("m is not 0 .. 100");
        }
        found.findAbove(m, kept, group);
        return found.count;
    }

    public int violation(int i) {
        return found.numberOf(i);
    }

    public int complete(int most, int what)
            throws IllegalStateException, IllegalArgumentException, IndexOutOfBoundsException {
        requireGroup();
        if (most < 1 || most > MOST_BOX) {
            throw new IllegalArgumentException("H is not 1 .. 12");
        }
        if (what != 0 && what != 1) {
            throw new IndexOutOfBoundsException("neither kinds with a row nor all kinds");
        }
        return what == 0 ? merged.countPresentWithin(most) : group.countPresentKindsWithin(most);
    }

    private void requireGroup() {
        if (group.size == 0) {
            throw new IllegalStateException("there is no group");
        }
    }

    private static void requireIndex(int h, int k, int l) {
        if (!Index.isInBox(h, k, l, MOST_INDEX)) {
            throw new IllegalArgumentException("a number is not -127 .. 127");
        }
    }

    private static void requirePartOfQuotient(int what) {
        if (what != 0 && what != 1) {
            throw new IndexOutOfBoundsException("neither numerator nor denominator");
        }
    }

    /** The greatest common divisor of two numbers that are not below 0; at least 1. */
    private static long commonDivisor(long a, long b) {
        long greater = a;
        long lesser = b;
        // Each two steps halve the numbers at least, so 64 bits need no more than 128.
        for (int step = 0; step < 128 && lesser > 0; step++) {
            long rest = greater % lesser;
            greater = lesser;
            lesser = rest;
        }
        return greater < 1 ? 1 : greater;
    }

    /** The bytes that were fed and not yet read. */
    private static final class Tape {
        private final byte[] bytes = new byte[MOST_BYTES];
        private int length;

        void append(int four) {
            for (int shift = 24; shift >= 0 && length < MOST_BYTES; shift -= 8) {
                bytes[length] = (byte) (four >> shift);
                length++;
            }
        }

        /** The byte at a place, 0 .. 255; NONE where there is none. */
        int byteAt(int place) {
            if (place < 0 || place >= length) {
                return NONE;
            }
            return bytes[place] & 255;
        }
    }

    /**
     * An index in one int, ten bits a number, so that the greater int is the greater
     * index and no call needs an array for three numbers. What a rotation of numbers
     * -1 .. 1 makes of -127 .. 127 stays within -381 .. 381.
     */
    private static final class Index {
        private static final int ZERO = 512;
        private static final int MASK = 1023;
        private static final int TWICE_ZERO = ((2 * ZERO) << 20) + ((2 * ZERO) << 10) + 2 * ZERO;

        static int pack(int h, int k, int l) {
            return ((h + ZERO) << 20) + ((k + ZERO) << 10) + l + ZERO;
        }

        static int part(int packed, int which) {
            return ((packed >> (20 - 10 * which)) & MASK) - ZERO;
        }

        /** The index with all signs changed. */
        static int opposite(int packed) {
            return TWICE_ZERO - packed;
        }

        static boolean isInBox(int h, int k, int l, int most) {
            return h >= -most && h <= most && k >= -most && k <= most && l >= -most && l <= most;
        }
    }

    /** Reads the tape as a symbol and hands its generators to the maker of the group. */
    private static final class SymbolReader {
        private static final int MOST_MATRICES = 4;
        private static final int MOST_SHIFTS = 4;
        // X, Y and Z are also the places of their translations.
        private static final int X = 0, Y = 1, Z = 2, PRIME = 3, SECOND = 4, STAR = 5;
        private static final int NO_AXIS = 6, MISSING_AXIS = 7;
        private static final int ROTATION_1 = 0, ROTATION_2 = 9, ROTATION_3 = 18, ROTATION_4 = 27;
        private static final int ROTATION_6 = 36, ROTATION_PRIME = 45, ROTATION_SECOND = 54, ROTATION_STAR = 63;
        private static final int[] ROTATIONS = {
            1, 0, 0, 0, 1, 0, 0, 0, 1,
            -1, 0, 0, 0, -1, 0, 0, 0, 1,
            0, -1, 0, 1, -1, 0, 0, 0, 1,
            0, -1, 0, 1, 0, 0, 0, 0, 1,
            1, -1, 0, 1, 0, 0, 0, 0, 1,
            0, -1, 0, -1, 0, 0, 0, 0, -1,
            0, 1, 0, 1, 0, 0, 0, 0, -1,
            0, 0, 1, 1, 0, 0, 0, 1, 0,
        };

        private final Tape tape;
        private final GroupMaker maker;
        private final int[] matrix = new int[Group.NUMBERS];
        private int place;
        private int countTurned;
        private int firstFold;
        private int axisBefore;

        SymbolReader(Tape tape, GroupMaker maker) {
            this.tape = tape;
            this.maker = maker;
        }

        /** Whether the tape is a symbol; where it is none, its fault is at the place reached. */
        boolean readTape() {
            place = 0;
            countTurned = 0;
            firstFold = 0;
            axisBefore = Z;
            maker.clear();
            skipBlanks();
            if (takes('-')) {
                addPlain(-1, 0, 0, 0);
            }
            if (!readLattice()) {
                return false;
            }
            for (int i = 0; i < MOST_MATRICES; i++) {
                int blanks = skipBlanks();
                if (i > 0 && isAtEnd()) {
                    return true;
                }
                if (blanks == 0 || !readMatrix()) {
                    return false;
                }
            }
            skipBlanks();
            return isAtEnd();
        }

        private boolean isAtEnd() {
            return place >= tape.length;
        }

        private int skipBlanks() {
            int from = place;
            while (place < tape.length && tape.byteAt(place) == ' ') {
                place++;
            }
            return place - from;
        }

        private boolean takes(int sign) {
            if (tape.byteAt(place) != sign) {
                return false;
            }
            place++;
            return true;
        }

        private boolean readLattice() {
            switch (tape.byteAt(place)) {
                case 'P':
                    break;
                case 'A':
                    addPlain(1, 0, 6, 6);
                    break;
                case 'B':
                    addPlain(1, 6, 0, 6);
                    break;
                case 'C':
                    addPlain(1, 6, 6, 0);
                    break;
                case 'I':
                    addPlain(1, 6, 6, 6);
                    break;
                case 'R':
                    addPlain(1, 8, 4, 4);
                    addPlain(1, 4, 8, 8);
                    break;
                case 'F':
                    addPlain(1, 0, 6, 6);
                    addPlain(1, 6, 0, 6);
                    addPlain(1, 6, 6, 0);
                    break;
                default:
                    return false;
            }
            place++;
            return true;
        }

        /** Adds the rotation of 1, or that with its signs changed, with a translation. */
        private void addPlain(int sign, int x, int y, int z) {
            setRotation(ROTATION_1, 0, sign);
            shift(x, y, z);
            maker.addGenerator(matrix);
        }

        private boolean readMatrix() {
            int sign = takes('-') ? -1 : 1;
            int fold = foldOf(tape.byteAt(place));
            if (fold == NONE) {
                return false;
            }
            place++;
            int axis = readAxis(fold);
            if (axis == MISSING_AXIS) {
                return false;
            }
            setRotation(rotationOf(fold, axis), turnOf(axis), sign);
            readShifts(fold, axis);
            maker.addGenerator(matrix);
            remember(fold, axis);
            return true;
        }

        private static int foldOf(int sign) {
            switch (sign) {
                case '1':
                case '2':
                case '3':
                case '4':
                case '6':
                    return sign - '0';
                default:
                    return NONE;
            }
        }

        private int readAxis(int fold) {
            int axis = writtenAxis(fold, tape.byteAt(place));
            if (axis == NO_AXIS) {
                return axisByDefault(fold);
            }
            place++;
            return axis;
        }

        private static int writtenAxis(int fold, int sign) {
            if (fold == 1) {
                return NO_AXIS;
            }
            switch (sign) {
                case 'x':
                    return X;
                case 'y':
                    return Y;
                case 'z':
                    return Z;
                case '\'':
                    return fold == 2 ? PRIME : NO_AXIS;
                case '"':
                    return fold == 2 ? SECOND : NO_AXIS;
                case '*':
                    return fold == 3 ? STAR : NO_AXIS;
                default:
                    return NO_AXIS;
            }
        }

        private int axisByDefault(int fold) {
            if (fold == 1) {
                return NO_AXIS;
            }
            if (countTurned == 0) {
                return Z;
            }
            if (countTurned == 1 && fold == 2) {
                return firstFold == 2 || firstFold == 4 ? X : PRIME;
            }
            return fold == 3 ? STAR : MISSING_AXIS;
        }

        private static int rotationOf(int fold, int axis) {
            switch (axis) {
                case PRIME:
                    return ROTATION_PRIME;
                case SECOND:
                    return ROTATION_SECOND;
                case STAR:
                    return ROTATION_STAR;
                default:
                    break;
            }
            switch (fold) {
                case 2:
                    return ROTATION_2;
                case 3:
                    return ROTATION_3;
                case 4:
                    return ROTATION_4;
                case 6:
                    return ROTATION_6;
                default:
                    return ROTATION_1;
            }
        }

        /** By how many places the table's rotation, which is that of z, is to be turned. */
        private int turnOf(int axis) {
            int along = axis == PRIME || axis == SECOND ? axisBefore : axis;
            if (along == X) {
                return 1;
            }
            return along == Y ? 2 : 0;
        }

        private void setRotation(int from, int turn, int sign) {
            for (int i = 0; i < 3; i++) {
                for (int j = 0; j < 3; j++) {
                    int to = (i + turn) % 3 * 3 + (j + turn) % 3;
                    matrix[to] = sign * ROTATIONS[from + i * 3 + j];
                }
            }
            for (int i = 9; i < Group.NUMBERS; i++) {
                matrix[i] = 0;
            }
        }

        private void readShifts(int fold, int axis) {
            boolean mayBeDigit = axis == X || axis == Y || axis == Z;
            for (int i = 0; i < MOST_SHIFTS; i++) {
                int sign = tape.byteAt(place);
                if (mayBeDigit && isScrew(sign, fold)) {
                    mayBeDigit = false;
                    shiftAlong(axis, (sign - '0') * screwStep(fold));
                } else if (!shiftByLetter(sign)) {
                    return;
                }
                place++;
            }
        }

        private static boolean isScrew(int sign, int fold) {
            return screwStep(fold) > 0 && sign >= '1' && sign < '0' + fold;
        }

        /** Twelve divided by the order; 0 for the orders that take no digit. */
        private static int screwStep(int fold) {
            switch (fold) {
                case 3:
                    return 4;
                case 4:
                    return 3;
                case 6:
                    return 2;
                default:
                    return 0;
            }
        }

        private boolean shiftByLetter(int sign) {
            switch (sign) {
                case 'a':
                    return shift(6, 0, 0);
                case 'b':
                    return shift(0, 6, 0);
                case 'c':
                    return shift(0, 0, 6);
                case 'n':
                    return shift(6, 6, 6);
                case 'u':
                    return shift(3, 0, 0);
                case 'v':
                    return shift(0, 3, 0);
                case 'w':
                    return shift(0, 0, 3);
                case 'd':
                    return shift(3, 3, 3);
                default:
                    return false;
            }
        }

        private boolean shift(int x, int y, int z) {
            shiftAlong(X, x);
            shiftAlong(Y, y);
            shiftAlong(Z, z);
            return true;
        }

        private void shiftAlong(int axis, int by) {
            if (axis >= X && axis <= Z) {
                matrix[9 + axis] = (matrix[9 + axis] + by) % 12;
            }
        }

        private void remember(int fold, int axis) {
            if (fold == 1) {
                return;
            }
            if (countTurned == 0) {
                firstFold = fold;
            }
            countTurned++;
            if (axis <= Z) {
                axisBefore = axis;
            }
        }
    }

    /**
     * Makes the least set of operators that is closed. An operator is one int here: two
     * bits for each number of its rotation, four for each of its translation, in the
     * order in which operators are compared.
     *
     * Of all groups that matrices of symbols make, the finite ones have rotations of
     * numbers -1 .. 1 alone (FiniteGroupTests goes through all of them): a number beyond
     * tells that there is no end, so two bits do.
     */
    private static final class GroupMaker {
        private static final int MOST_GENERATORS = 8;

        private final int[] generators = new int[MOST_GENERATORS * Group.NUMBERS];
        private final int[] foundKeys = new int[MOST_OPERATORS];
        private final int[] sortedKeys = new int[MOST_OPERATORS];
        private final int[] left = new int[Group.NUMBERS];
        private int countGenerators;
        private int count;

        void clear() {
            countGenerators = 0;
        }

        void addGenerator(int[] numbers) {
            if (countGenerators < MOST_GENERATORS && numbers != null && numbers.length == Group.NUMBERS) {
                System.arraycopy(numbers, 0, generators, countGenerators * Group.NUMBERS, Group.NUMBERS);
                countGenerators++;
            }
        }

        /** Whether the generators make a group of no more than the most operators. */
        boolean makesGroup() {
            count = 0;
            keep(Group.PLAIN_KEY << Group.TRANSLATION_BITS);
            for (int i = 0; i < MOST_OPERATORS && i < count; i++) {
                Group.unpack(foundKeys[i], left, 0);
                for (int g = 0; g < countGenerators; g++) {
                    int key = keyOfLeftBehind(g * Group.NUMBERS);
                    if (key == NONE || !keep(key)) {
                        return false;
                    }
                }
            }
            return true;
        }

        /** The key of the left operator behind a generator; NONE if it has a number beyond -1 .. 1. */
        private int keyOfLeftBehind(int from) {
            int key = 0;
            for (int i = 0; i < 9; i += 3) {
                for (int j = 0; j < 3; j++) {
                    int number = timesColumn(i, from + j, 3);
                    if (number < -1 || number > 1) {
                        return NONE;
                    }
                    key = (key << 2) + number + 1;
                }
            }
            for (int i = 0; i < 3; i++) {
                int number = timesColumn(i * 3, from + 9, 1) + left[9 + i];
                key = (key << 4) + Math.floorMod(number, 12);
            }
            return key;
        }

        private int timesColumn(int row, int from, int step) {
            return left[row] * generators[from]
                + left[row + 1] * generators[from + step]
                + left[row + 2] * generators[from + 2 * step];
        }

        /** False when it is one more than there may be. */
        private boolean keep(int key) {
            int at = placeOf(key);
            if (at < count && sortedKeys[at] == key) {
                return true;
            }
            if (count >= MOST_OPERATORS) {
                return false;
            }
            System.arraycopy(sortedKeys, at, sortedKeys, at + 1, count - at);
            sortedKeys[at] = key;
            foundKeys[count] = key;
            count++;
            return true;
        }

        /** How many of the sorted keys are less. */
        private int placeOf(int key) {
            int low = 0;
            int high = count;
            for (int step = 0; step < 32 && low < high; step++) {
                int middle = (low + high) / 2;
                if (sortedKeys[middle] < key) {
                    low = middle + 1;
                } else {
                    high = middle;
                }
            }
            return low;
        }
    }

    /** The operators of a space, in their order; none of them before there is a group. */
    private static final class Group {
        private static final int NUMBERS = 12;
        private static final int TRANSLATION_BITS = 12;
        // The rotation of 1, two bits a number, each number with 1 added; and with signs changed.
        private static final int PLAIN_KEY = 0b10_01_01_01_10_01_01_01_10;
        private static final int INVERSE_KEY = 0b00_01_01_01_00_01_01_01_00;
        private static final int BOTH_KEYS = PLAIN_KEY + INVERSE_KEY;

        private final int[] keys = new int[MOST_OPERATORS];
        private final int[] numbers = new int[MOST_OPERATORS * NUMBERS];
        // The different rotations; those with the determinant -1 with their signs changed.
        private final int[] turns = new int[MOST_OPERATORS * NUMBERS];
        private final int[] turnKeys = new int[MOST_OPERATORS];
        private int countTurns;
        private int size;

        static void unpack(int key, int[] into, int from) {
            if (into == null || from < 0 || from > into.length - NUMBERS) {
                return;
            }
            for (int k = 0; k < 9; k++) {
                into[from + k] = ((key >> (TRANSLATION_BITS + 2 * (8 - k))) & 3) - 1;
            }
            for (int k = 0; k < 3; k++) {
                into[from + 9 + k] = (key >> (4 * (2 - k))) & 15;
            }
        }

        void become(GroupMaker maker) {
            size = maker.count;
            countTurns = 0;
            for (int i = 0; i < size; i++) {
                keys[i] = maker.sortedKeys[i];
                unpack(keys[i], numbers, i * NUMBERS);
                // Operators of one rotation stand together.
                if (i == 0 || rotationKey(i) != rotationKey(i - 1)) {
                    keepTurn(determinant(i * NUMBERS) < 0 ? BOTH_KEYS - rotationKey(i) : rotationKey(i));
                }
            }
        }

        private int rotationKey(int i) {
            return keys[i] >> TRANSLATION_BITS;
        }

        private int determinant(int at) {
            return numbers[at] * (numbers[at + 4] * numbers[at + 8] - numbers[at + 5] * numbers[at + 7])
                - numbers[at + 1] * (numbers[at + 3] * numbers[at + 8] - numbers[at + 5] * numbers[at + 6])
                + numbers[at + 2] * (numbers[at + 3] * numbers[at + 7] - numbers[at + 4] * numbers[at + 6]);
        }

        private void keepTurn(int key) {
            for (int i = 0; i < countTurns; i++) {
                if (turnKeys[i] == key) {
                    return;
                }
            }
            if (countTurns < MOST_OPERATORS) {
                turnKeys[countTurns] = key;
                unpack(key << TRANSLATION_BITS, turns, countTurns * NUMBERS);
                countTurns++;
            }
        }

        boolean has(int i) {
            return i >= 0 && i < size;
        }

        int number(int i, int k) {
            return numbers[i * NUMBERS + k];
        }

        int laueClass() {
            switch (countTurns) {
                case 1:
                    return 0;
                case 2:
                    return 1;
                case 3:
                    return 5;
                case 4:
                    return hasTurnOfTrace(1) ? 3 : 2;
                case 6:
                    return hasTurnOfTrace(2) ? 7 : 6;
                case 8:
                    return 4;
                case 12:
                    return hasTurnOfTrace(2) ? 8 : 9;
                case 24:
                    return 10;
                default:
                    return NONE;
            }
        }

        private boolean hasTurnOfTrace(int trace) {
            for (int i = 0; i < countTurns; i++) {
                int at = i * NUMBERS;
                if (turns[at] + turns[at + 4] + turns[at + 8] == trace) {
                    return true;
                }
            }
            return false;
        }

        int countPlain(int sign) {
            int key = sign < 0 ? INVERSE_KEY : PLAIN_KEY;
            int plain = 0;
            for (int i = 0; i < size; i++) {
                if (rotationKey(i) == key) {
                    plain++;
                }
            }
            return plain;
        }

        int sentNumber(int i, int column, int h, int k, int l) {
            int at = i * NUMBERS + column;
            return h * numbers[at] + k * numbers[at + 3] + l * numbers[at + 6];
        }

        int phase(int i, int h, int k, int l) {
            int at = i * NUMBERS + 9;
            return Math.floorMod(h * numbers[at] + k * numbers[at + 1] + l * numbers[at + 2], 12);
        }

        boolean isAbsent(int h, int k, int l) {
            for (int i = 0; i < size; i++) {
                if (sentNumber(i, 0, h, k, l) == h && sentNumber(i, 1, h, k, l) == k
                        && sentNumber(i, 2, h, k, l) == l && phase(i, h, k, l) != 0) {
                    return true;
                }
            }
            return false;
        }

        private int turned(int i, int h, int k, int l) {
            int at = i * NUMBERS;
            return Index.pack(
                h * turns[at] + k * turns[at + 3] + l * turns[at + 6],
                h * turns[at + 1] + k * turns[at + 4] + l * turns[at + 7],
                h * turns[at + 2] + k * turns[at + 5] + l * turns[at + 8]);
        }

        /** The greatest index of a kind, packed. */
        int greatestOf(int h, int k, int l) {
            int best = Index.pack(h, k, l);
            for (int i = 0; i < countTurns; i++) {
                int image = turned(i, h, k, l);
                best = Math.max(best, Math.max(image, Index.opposite(image)));
            }
            return best;
        }

        private boolean isGreatest(int h, int k, int l) {
            int own = Index.pack(h, k, l);
            for (int i = 0; i < countTurns; i++) {
                int image = turned(i, h, k, l);
                if (image > own || Index.opposite(image) > own) {
                    return false;
                }
            }
            return true;
        }

        /**
         * The turns and their opposites are a group: each equivalent index is reached by
         * as many of them as leave the index as it is.
         */
        int multiplicity(int h, int k, int l) {
            int own = Index.pack(h, k, l);
            int still = 0;
            for (int i = 0; i < countTurns; i++) {
                int image = turned(i, h, k, l);
                still += image == own ? 1 : 0;
                still += Index.opposite(image) == own ? 1 : 0;
            }
            return still == 0 ? 0 : 2 * countTurns / still;
        }

        int countPresentKindsWithin(int most) {
            int kinds = 0;
            // The greatest index is not less than its opposite: its h is never below 0.
            for (int h = 0; h <= most; h++) {
                for (int k = -most; k <= most; k++) {
                    for (int l = -most; l <= most; l++) {
                        boolean isZero = h == 0 && k == 0 && l == 0;
                        if (!isZero && isGreatest(h, k, l) && !isAbsent(h, k, l)) {
                            kinds++;
                        }
                    }
                }
            }
            return kinds;
        }
    }

    /** The reflections of all files. */
    private static final class Reflections {
        private final int[] indices = new int[MOST_REFLECTIONS];
        private final int[] intensities = new int[MOST_REFLECTIONS];
        private final int[] sigmas = new int[MOST_REFLECTIONS];
        private int count;

        /** Writes behind those that count, where it is not yet one of them; false without room. */
        boolean write(int behind, int index, int intensity, int sigma) {
            int at = count + behind;
            if (at < 0 || at >= MOST_REFLECTIONS) {
                return false;
            }
            indices[at] = index;
            intensities[at] = intensity;
            sigmas[at] = sigma;
            return true;
        }

        int number(int i, int what) {
            if (what == 3) {
                return intensities[i];
            }
            return what == 4 ? sigmas[i] : Index.part(indices[i], what);
        }
    }

    /** Reads the tape as a file; its reflections count when all of it is read without fault. */
    private static final class FileReader {
        private static final int BYTES_OF_A_ROW = 28;
        private static final int INDEX_WIDTH = 4;
        private static final int INTENSITY_COLUMN = 12;
        private static final int SIGMA_COLUMN = 20;
        private static final int PLACES_BEFORE_POINT = 5;
        private static final int NEW_LINE = 10;

        private final Tape tape;
        private final Reflections kept;
        private final int[] index = new int[3];
        private int intensity;
        private int sigma;
        private int size;
        private boolean minus;
        private int fault;

        FileReader(Tape tape, Reflections kept) {
            this.tape = tape;
            this.kept = kept;
        }

        /** How many reflections came, or -1 less the place of the fault. */
        int readTape() {
            int found = 0;
            boolean ended = false;
            for (int start = 0; start == 0 || start < tape.length; start += BYTES_OF_A_ROW + 1) {
                if (ended) {
                    return -1 - start;
                }
                if (!readRow(start)) {
                    return -1 - fault;
                }
                if (index[0] == 0 && index[1] == 0 && index[2] == 0) {
                    ended = true;
                } else if (kept.write(found, Index.pack(index[0], index[1], index[2]), intensity, sigma)) {
                    found++;
                } else {
                    return -1 - start;
                }
                int behind = start + BYTES_OF_A_ROW;
                if (behind < tape.length && tape.byteAt(behind) != NEW_LINE) {
                    return -1 - behind;
                }
            }
            kept.count += found;
            return found;
        }

        private boolean readRow(int start) {
            for (int i = 0; i < 3; i++) {
                if (!readIndex(start + i * INDEX_WIDTH)) {
                    return false;
                }
                index[i] = signed();
            }
            if (!readHundredths(start + INTENSITY_COLUMN, true)) {
                return false;
            }
            intensity = signed();
            if (!readHundredths(start + SIGMA_COLUMN, false)) {
                return false;
            }
            sigma = signed();
            return true;
        }

        private int signed() {
            return minus ? -size : size;
        }

        private boolean readIndex(int from) {
            if (!readWhole(from, INDEX_WIDTH, true)) {
                return false;
            }
            return size <= MOST_INDEX || failAt(from + INDEX_WIDTH - 1);
        }

        private boolean readHundredths(int from, boolean mayBeMinus) {
            if (!readWhole(from, PLACES_BEFORE_POINT, mayBeMinus)) {
                return false;
            }
            int point = from + PLACES_BEFORE_POINT;
            if (tape.byteAt(point) != '.') {
                return failAt(point);
            }
            return addDigit(point + 1) && addDigit(point + 2);
        }

        private boolean addDigit(int place) {
            int sign = tape.byteAt(place);
            if (!isDigit(sign)) {
                return failAt(place);
            }
            size = size * 10 + sign - '0';
            return true;
        }

        /** Reads blanks, perhaps -, and digits to the end of the width. */
        private boolean readWhole(int from, int width, boolean mayBeMinus) {
            boolean begun = false;
            size = 0;
            minus = false;
            for (int place = from; place < from + width; place++) {
                int sign = tape.byteAt(place);
                boolean mayBeginLater = !begun && place < from + width - 1;
                if (sign == ' ' && mayBeginLater) {
                    continue;
                }
                begun = true;
                if (sign == '-' && mayBeginLater && mayBeMinus) {
                    minus = true;
                } else if (!addDigit(place)) {
                    return false;
                }
            }
            return true;
        }

        private static boolean isDigit(int sign) {
            return sign >= '0' && sign <= '9';
        }

        private boolean failAt(int place) {
            fault = place;
            return false;
        }
    }

    /** The merged rows, which are always of the group that there is. */
    private static final class Rows {
        private static final int NUMBER_BITS = 12;
        private static final int NUMBER_MASK = 4095;
        private static final int[] GAPS = {1750, 701, 301, 132, 57, 23, 10, 4, 1};

        // A kind's greatest index, and in the low bits the number of a reflection of it.
        private final long[] sorted = new long[MOST_REFLECTIONS];
        private final int[] indices = new int[MOST_REFLECTIONS];
        private final int[] sizes = new int[MOST_REFLECTIONS];
        private final int[] multiplicities = new int[MOST_REFLECTIONS];
        private final boolean[] absences = new boolean[MOST_REFLECTIONS];
        private final long[] sums = new long[MOST_REFLECTIONS];
        private final long[] spreads = new long[MOST_REFLECTIONS];
        private final Quotient quotient = new Quotient();
        private int count;

        void clear() {
            count = 0;
            quotient.clear();
        }

        void mergeAll(Reflections kept, Group group) {
            clear();
            sortByKind(kept, group);
            gather(kept, group);
            addSpreads(kept);
            makeQuotient();
        }

        private void sortByKind(Reflections kept, Group group) {
            for (int i = 0; i < kept.count; i++) {
                int index = kept.indices[i];
                long kind = group.greatestOf(Index.part(index, 0), Index.part(index, 1), Index.part(index, 2));
                sorted[i] = (kind << NUMBER_BITS) + i;
            }
            for (int gap : GAPS) {
                for (int i = gap; i < kept.count; i++) {
                    sink(i, gap);
                }
            }
        }

        private void sink(int from, int gap) {
            if (gap < 1) {
                return;
            }
            long moving = sorted[from];
            int at = from;
            for (; at >= gap && sorted[at - gap] > moving; at -= gap) {
                sorted[at] = sorted[at - gap];
            }
            sorted[at] = moving;
        }

        private int kindAt(int i) {
            return (int) (sorted[i] >> NUMBER_BITS);
        }

        private int intensityAt(int i, Reflections kept) {
            return kept.intensities[(int) (sorted[i] & NUMBER_MASK)];
        }

        private void gather(Reflections kept, Group group) {
            for (int i = 0; i < kept.count; i++) {
                if (i == 0 || kindAt(i) != kindAt(i - 1)) {
                    begin(kindAt(i), group);
                }
                sizes[count - 1]++;
                sums[count - 1] += intensityAt(i, kept);
            }
        }

        private void begin(int index, Group group) {
            int h = Index.part(index, 0);
            int k = Index.part(index, 1);
            int l = Index.part(index, 2);
            indices[count] = index;
            sizes[count] = 0;
            multiplicities[count] = group.multiplicity(h, k, l);
            absences[count] = group.isAbsent(h, k, l);
            sums[count] = 0;
            spreads[count] = 0;
            count++;
        }

        private void addSpreads(Reflections kept) {
            int row = -1;
            for (int i = 0; i < kept.count; i++) {
                if (i == 0 || kindAt(i) != kindAt(i - 1)) {
                    row++;
                }
                spreads[row] += Math.abs((long) sizes[row] * intensityAt(i, kept) - sums[row]);
            }
        }

        private void makeQuotient() {
            long total = 0;
            for (int i = 0; i < count; i++) {
                if (!absences[i] && sizes[i] >= 2) {
                    quotient.add(spreads[i], sizes[i]);
                    total += sums[i];
                }
            }
            quotient.divideBy(total);
        }

        long number(int i, int what) {
            switch (what) {
                case 3:
                    return sizes[i];
                case 4:
                    return multiplicities[i];
                case 5:
                    return absences[i] ? 1 : 0;
                case 6:
                    return sums[i];
                case 7:
                    return sums[i] / commonDivisor(Math.abs(sums[i]), sizes[i]);
                case 8:
                    return sizes[i] / commonDivisor(Math.abs(sums[i]), sizes[i]);
                case 9:
                    return spreads[i];
                default:
                    return Index.part(indices[i], what);
            }
        }

        int countPresentWithin(int most) {
            int present = 0;
            for (int i = 0; i < count; i++) {
                int h = Index.part(indices[i], 0);
                int k = Index.part(indices[i], 1);
                int l = Index.part(indices[i], 2);
                if (!absences[i] && Index.isInBox(h, k, l, most)) {
                    present++;
                }
            }
            return present;
        }
    }

    /**
     * R. While terms are added its denominator is the least common multiple of theirs,
     * which are sizes of rows, 3000 together at most: it stays below 2 to the 229, what
     * is added below 2 to the 36, and the divisor too.
     */
    private static final class Quotient {
        private final Natural top = new Natural();
        private final Natural bottom = new Natural();
        private final Natural share = new Natural();
        private int greatestSize;
        private boolean known;

        void clear() {
            top.set(0);
            bottom.set(1);
            greatestSize = 0;
            known = false;
        }

        Natural part(int what) {
            return what == 0 ? top : bottom;
        }

        void add(long spread, int size) {
            if (size < 1) {
                return;
            }
            greatestSize = Math.max(greatestSize, size);
            long common = commonDivisor(spread, size);
            long term = spread / common;
            long lowest = size / common;
            long shared = commonDivisor(bottom.remainder(lowest), lowest);
            share.copy(bottom);
            share.divide(shared);
            top.multiply(lowest / shared);
            top.addProduct(share, term);
            bottom.multiply(lowest / shared);
        }

        /** There is a quotient only behind this, with a divisor above 0. */
        void divideBy(long divisor) {
            if (divisor <= 0) {
                return;
            }
            cancelSmallFactors();
            long common = commonDivisor(top.remainder(divisor), divisor);
            top.divide(common);
            bottom.multiply(divisor / common);
            known = true;
        }

        /** All prime factors of the denominator are those of sizes, so none is beyond them. */
        private void cancelSmallFactors() {
            for (int factor = 2; factor <= greatestSize; factor++) {
                // The power of 2 in a size is the 11th at most.
                for (int times = 0; times < 32 && cancels(factor); times++) {
                    top.divide(factor);
                    bottom.divide(factor);
                }
            }
        }

        private boolean cancels(int factor) {
            return bottom.remainder(factor) == 0 && top.remainder(factor) == 0;
        }
    }

    /**
     * A natural number below 2 to the 320. Its limbs have 16 bits, so that a limb times
     * a factor below 2 to the 46 (a spread), with what is carried, is still a long.
     */
    private static final class Natural {
        private static final int LIMBS = 20;
        private static final int LIMB_BITS = 16;
        private static final int LIMB_MASK = 65535;

        private final int[] limbs = new int[LIMBS];

        void set(int value) {
            for (int i = 0; i < LIMBS; i++) {
                limbs[i] = 0;
            }
            limbs[0] = value & LIMB_MASK;
        }

        void copy(Natural other) {
            System.arraycopy(other.limbs, 0, limbs, 0, LIMBS);
        }

        void multiply(long factor) {
            long carried = 0;
            for (int i = 0; i < LIMBS; i++) {
                carried += limbs[i] * factor;
                limbs[i] = (int) (carried & LIMB_MASK);
                carried >>= LIMB_BITS;
            }
        }

        void addProduct(Natural other, long factor) {
            long carried = 0;
            for (int i = 0; i < LIMBS; i++) {
                carried += limbs[i] + other.limbs[i] * factor;
                limbs[i] = (int) (carried & LIMB_MASK);
                carried >>= LIMB_BITS;
            }
        }

        void divide(long divisor) {
            if (divisor < 1) {
                return;
            }
            long rest = 0;
            for (int i = LIMBS - 1; i >= 0; i--) {
                rest = (rest << LIMB_BITS) + limbs[i];
                limbs[i] = (int) (rest / divisor);
                rest %= divisor;
            }
        }

        long remainder(long divisor) {
            if (divisor < 1) {
                return 0;
            }
            long rest = 0;
            for (int i = LIMBS - 1; i >= 0; i--) {
                rest = ((rest << LIMB_BITS) + limbs[i]) % divisor;
            }
            return rest;
        }

        /** The 32-bit digit k, 0 the lowest; 0 where there is none. */
        int digitAt(int k) {
            if (k < 0 || k >= LIMBS / 2) {
                return 0;
            }
            return (limbs[2 * k + 1] << LIMB_BITS) + limbs[2 * k];
        }

        int countDigits() {
            for (int k = LIMBS / 2; k > 0; k--) {
                if (digitAt(k - 1) != 0) {
                    return k;
                }
            }
            return 0;
        }
    }

    /** The numbers of the reflections that the latest search found, whatever came since. */
    private static final class Violations {
        private final int[] numbers = new int[MOST_REFLECTIONS];
        private int count;

        void findAbove(int sigmas, Reflections kept, Group group) {
            count = 0;
            for (int i = 0; i < kept.count; i++) {
                int index = kept.indices[i];
                if (kept.intensities[i] > (long) sigmas * kept.sigmas[i]
                        && group.isAbsent(Index.part(index, 0), Index.part(index, 1), Index.part(index, 2))) {
                    numbers[count] = i;
                    count++;
                }
            }
        }

        int numberOf(int i) {
            return i >= 0 && i < count ? numbers[i] : NONE;
        }
    }
}
