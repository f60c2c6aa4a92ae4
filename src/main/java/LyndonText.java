/**
 * A text of at most 64 letters that is edited, and questions about it: its Lyndon factors, rotations, periods,
 * runs and suffixes; and necklaces that are counted and numbered. No question changes anything.
 *
 * Every answer is worked out anew from the letters: nothing that is found is kept for a later call, so no edit
 * can leave an old answer behind. The rows that the work needs are made once, with the object.
 */
public final class LyndonText {
    private static final int MOST_LETTERS = 64;
    private static final int GREATEST_LETTER = 25;
    private static final int DE_BRUIJN_LETTERS = 8;
    private static final int DE_BRUIJN_LENGTH = 6;
    private static final int NUMBERED_LETTERS = 4;
    private static final int NUMBERED_LENGTH = 8;
    private static final int COUNTED_LETTERS = 10;
    private static final int COUNTED_LENGTH = 12;

    private final Letters text;
    private final Factors factorRow;
    private final Borders borderRow;
    private final Runs runRow;
    private final Suffixes suffixRow;
    private final NecklaceWalk walk;

    public LyndonText() {
        text = new Letters();
        factorRow = new Factors();
        borderRow = new Borders();
        runRow = new Runs();
        suffixRow = new Suffixes();
        walk = new NecklaceWalk();
    }

    // ---- editing

    public int append(int letter) throws IllegalArgumentException, IllegalStateException {
        checkArgument(letter, 0, GREATEST_LETTER);
        checkRoom(1);
        text.push(letter);
        return text.count();
    }

    public int insert(int place, int letter)
            throws IndexOutOfBoundsException, IllegalArgumentException, IllegalStateException {
        checkIndex(place, text.count() + 1);
        checkArgument(letter, 0, GREATEST_LETTER);
        checkRoom(1);
        text.open(place, letter);
        return text.count();
    }

    public int set(int place, int letter) throws IndexOutOfBoundsException, IllegalArgumentException {
        checkIndex(place, text.count());
        checkArgument(letter, 0, GREATEST_LETTER);
        int before = text.letter(place);
        text.write(place, letter);
        return before;
    }

    public int remove(int place) throws IndexOutOfBoundsException {
        checkIndex(place, text.count());
        return text.take(place);
    }

    public int clear() {
        int before = text.count();
        text.empty();
        return before;
    }

    public int reverse() {
        text.turn(0, text.count());
        return text.count();
    }

    public int rotate(int letters) throws IllegalArgumentException, IllegalStateException {
        checkArgument(letters, 0, MOST_LETTERS - 1);
        int count = text.count();
        if (count == 0) {
            throw new IllegalStateException("the text is empty");
        }
        int shift = letters % count;
        // Both pieces turned around, and then the whole, change places without a second row.
        text.turn(0, shift);
        text.turn(shift, count);
        text.turn(0, count);
        return text.letter(0);
    }

    public int appendPart(int from, int to) throws IndexOutOfBoundsException, IllegalStateException {
        checkPart(from, to);
        checkRoom(to - from);
        for (int place = from; place < to; place++) {
            text.push(text.letter(place));
        }
        return text.count();
    }

    public int loadDeBruijn(int letters, int length) throws IllegalArgumentException {
        checkArgument(letters, 1, DE_BRUIJN_LETTERS);
        checkArgument(length, 1, DE_BRUIJN_LENGTH);
        if (Numbers.power(letters, length) > MOST_LETTERS) {
            throw new IllegalArgumentException("the text would have more than 64 letters");
        }
        text.empty();
        walk.begin(letters, length);
        // The roots of the necklaces of a length are just the Lyndon words whose lengths divide it, in the same order.
        boolean isAtNecklace = true;
        for (int words = 0; isAtNecklace && words < MOST_LETTERS; words++) {
            pushFromWalk(walk.root());
            isAtNecklace = walk.toNextNecklace();
        }
        return text.count();
    }

    public int loadNecklace(int letters, int length, int number) throws IllegalArgumentException {
        checkArgument(letters, 1, NUMBERED_LETTERS);
        checkArgument(length, 1, NUMBERED_LENGTH);
        if (number < 0 || number >= Numbers.necklaceCount(letters, length)) {
            throw new IllegalArgumentException("there is no necklace with this number");
        }
        walk.begin(letters, length);
        for (int passed = 0; passed < number; passed++) {
            walk.toNextNecklace();
        }
        text.empty();
        pushFromWalk(length);
        return walk.root();
    }

    // ---- the text

    public int length() {
        return text.count();
    }

    public int letterAt(int place) throws IndexOutOfBoundsException {
        checkIndex(place, text.count());
        return text.letter(place);
    }

    public int compare(int from, int to, int otherFrom, int otherTo) throws IndexOutOfBoundsException {
        checkPart(from, to);
        checkPart(otherFrom, otherTo);
        int shorter = Math.min(to - from, otherTo - otherFrom);
        int same = text.countSame(from, otherFrom);
        if (same < shorter) {
            return Integer.compare(text.letter(from + same), text.letter(otherFrom + same));
        }
        return Integer.compare(to - from, otherTo - otherFrom);
    }

    public int commonPrefix(int place, int other) throws IndexOutOfBoundsException {
        checkIndex(place, text.count() + 1);
        checkIndex(other, text.count() + 1);
        return text.countSame(place, other);
    }

    // ---- Lyndon words

    public boolean isLyndon(int from, int to) throws IndexOutOfBoundsException {
        checkPart(from, to);
        return Factors.isOneFactor(text, from, to);
    }

    public int factors() {
        factorRow.find(text);
        return factorRow.count();
    }

    public int factorStart(int factor) throws IndexOutOfBoundsException {
        findFactor(factor);
        return factorRow.start(factor);
    }

    public int factorLength(int factor) throws IndexOutOfBoundsException {
        findFactor(factor);
        return factorRow.start(factor + 1) - factorRow.start(factor);
    }

    public int factorOver(int place) throws IndexOutOfBoundsException {
        checkIndex(place, text.count());
        factorRow.find(text);
        return factorRow.numberOver(place);
    }

    public int longestLyndon(int place, boolean isReversed) throws IndexOutOfBoundsException {
        checkIndex(place, text.count());
        return Factors.firstLength(text, place, text.count(), isReversed);
    }

    public int standardFactor(int from, int to) throws IndexOutOfBoundsException, IllegalStateException {
        checkPart(from, to);
        if (to - from == 1 || !Factors.isOneFactor(text, from, to)) {
            throw new IllegalStateException("the part is no Lyndon word of two letters or more");
        }
        int start = from + 1;
        while (start < to - 1 && !Factors.isOneFactor(text, start, to)) {
            start++;
        }
        return start;
    }

    // ---- rotations

    public int leastRotation(int from, int to) throws IndexOutOfBoundsException {
        checkPart(from, to);
        return Rotations.least(text, from, to);
    }

    public int greatestRotation(int from, int to) throws IndexOutOfBoundsException {
        checkPart(from, to);
        return Rotations.greatest(text, from, to);
    }

    public int rotations(int from, int to) throws IndexOutOfBoundsException {
        checkPart(from, to);
        // A word comes back to itself first after as many letters as its root has.
        return borderRow.rootSize(text, from, to);
    }

    public boolean isNecklace(int from, int to) throws IndexOutOfBoundsException {
        checkPart(from, to);
        return Rotations.least(text, from, to) == 0;
    }

    // ---- periods

    public int period(int from, int to) throws IndexOutOfBoundsException {
        checkPart(from, to);
        return borderRow.leastPeriod(text, from, to);
    }

    public int periodByTrying(int from, int to) throws IndexOutOfBoundsException {
        checkPart(from, to);
        return text.firstPeriod(from, to);
    }

    public boolean isPeriod(int from, int to, int period) throws IndexOutOfBoundsException, IllegalArgumentException {
        checkPart(from, to);
        checkArgument(period, 1, to - from);
        return text.keepsPeriod(from, to, period);
    }

    public int periods(int from, int to) throws IndexOutOfBoundsException {
        checkPart(from, to);
        return borderRow.countAll(text, from, to);
    }

    public int border(int from, int to) throws IndexOutOfBoundsException {
        checkPart(from, to);
        return borderRow.longest(text, from, to);
    }

    public int rootLength(int from, int to) throws IndexOutOfBoundsException {
        checkPart(from, to);
        return borderRow.rootSize(text, from, to);
    }

    public double exponent(int from, int to) throws IndexOutOfBoundsException {
        checkPart(from, to);
        return quotient(to - from, borderRow.leastPeriod(text, from, to));
    }

    // ---- runs

    public int runs() {
        runRow.find(text);
        return runRow.count();
    }

    public int runStart(int run) throws IndexOutOfBoundsException {
        findRun(run);
        return runRow.start(run);
    }

    public int runEnd(int run) throws IndexOutOfBoundsException {
        findRun(run);
        return runRow.end(run);
    }

    public int runPeriod(int run) throws IndexOutOfBoundsException {
        findRun(run);
        return runRow.leastPeriod(run);
    }

    public int runsOver(int place) throws IndexOutOfBoundsException {
        checkIndex(place, text.count());
        runRow.find(text);
        int over = 0;
        for (int run = 0; run < runRow.count(); run++) {
            if (runRow.start(run) <= place && place < runRow.end(run)) {
                over++;
            }
        }
        return over;
    }

    public double exponentsOfRuns() {
        runRow.find(text);
        double sum = 0.0;
        for (int run = 0; run < runRow.count(); run++) {
            sum += quotient(runRow.size(run), runRow.leastPeriod(run));
        }
        return sum;
    }

    public int squares() {
        runRow.find(text);
        int found = 0;
        // A square of such a word stands in just one run of its period, and each place there with room for one has one.
        for (int run = 0; run < runRow.count(); run++) {
            found += runRow.size(run) - 2 * runRow.leastPeriod(run) + 1;
        }
        return found;
    }

    // ---- suffixes

    public int suffixAt(int rank) throws IndexOutOfBoundsException {
        checkIndex(rank, text.count());
        suffixRow.find(text);
        int place = 0;
        while (place < text.count() - 1 && suffixRow.rank(place) != rank) {
            place++;
        }
        return place;
    }

    public int rankOf(int place) throws IndexOutOfBoundsException {
        checkIndex(place, text.count());
        suffixRow.find(text);
        return suffixRow.rank(place);
    }

    // ---- numbers of necklaces

    public long necklaces(int letters, int length) throws IllegalArgumentException {
        checkArgument(letters, 1, COUNTED_LETTERS);
        checkArgument(length, 1, COUNTED_LENGTH);
        return Numbers.necklaceCount(letters, length);
    }

    public long lyndonWords(int letters, int length) throws IllegalArgumentException {
        checkArgument(letters, 1, COUNTED_LETTERS);
        checkArgument(length, 1, COUNTED_LENGTH);
        return Numbers.lyndonCount(letters, length);
    }

    public int necklaceNumber(int from, int to, int letters)
            throws IndexOutOfBoundsException, IllegalArgumentException, IllegalStateException {
        checkPart(from, to);
        checkArgument(letters, 1, NUMBERED_LETTERS);
        if (to - from > NUMBERED_LENGTH || text.greatestLetter(from, to) >= letters) {
            throw new IllegalStateException("the part has more than 8 letters, or one that is not among these");
        }
        walk.begin(letters, to - from);
        return walk.countAhead(packedLeastRotation(from, to));
    }

    // ---- what the calls share

    private static void checkIndex(int index, int count) {
        if (index < 0 || index >= count) {
            throw new IndexOutOfBoundsException("there is no such place, factor, run or rank");
        }
    }

    private static void checkArgument(int argument, int least, int most) {
        if (argument < least || argument > most) {
            throw new IllegalArgumentException("an argument is out of range");
        }
    }

    private void checkPart(int from, int to) {
        if (from < 0 || from >= to || to > text.count()) {
            throw new IndexOutOfBoundsException("there is no such part");
        }
    }

    private void checkRoom(int letters) {
        if (text.count() + letters > MOST_LETTERS) {
            throw new IllegalStateException("the text would have more than 64 letters");
        }
    }

    private void findFactor(int factor) {
        factorRow.find(text);
        checkIndex(factor, factorRow.count());
    }

    private void findRun(int run) {
        runRow.find(text);
        checkIndex(run, runRow.count());
    }

    private void pushFromWalk(int letters) {
        for (int index = 0; index < letters; index++) {
            text.push(walk.letter(index));
        }
    }

    private int packedLeastRotation(int from, int to) {
        int shift = Rotations.least(text, from, to);
        int packed = 0;
        for (int index = 0; index < to - from; index++) {
            packed = NecklaceWalk.pack(packed, Rotations.letter(text, from, to, shift + index));
        }
        return packed;
    }

    private static double quotient(int dividend, int divisor) {
        return divisor > 0 ? (double) dividend / divisor : 0.0;
    }

    private static int at(int[] row, int index) {
        return index >= 0 && index < row.length ? row[index] : 0;
    }

    private static void put(int[] row, int index, int value) {
        if (index >= 0 && index < row.length) {
            row[index] = value;
        }
    }

    /** The letters of the text. Whoever calls has looked at the places. */
    private static final class Letters {
        private final int[] row = new int[MOST_LETTERS];
        private int count = 0;

        int count() {
            return count;
        }

        int letter(int place) {
            return at(row, place);
        }

        void write(int place, int letter) {
            put(row, place, letter);
        }

        void empty() {
            count = 0;
        }

        void push(int letter) {
            open(count, letter);
        }

        void open(int place, int letter) {
            if (count < MOST_LETTERS) {
                for (int moved = count; moved > place; moved--) {
                    put(row, moved, at(row, moved - 1));
                }
                put(row, place, letter);
                count++;
            }
        }

        int take(int place) {
            int taken = at(row, place);
            for (int moved = place + 1; moved < count; moved++) {
                put(row, moved - 1, at(row, moved));
            }
            count--;
            return taken;
        }

        void turn(int from, int to) {
            for (int passed = 0; passed < (to - from) / 2; passed++) {
                int kept = at(row, from + passed);
                put(row, from + passed, at(row, to - 1 - passed));
                put(row, to - 1 - passed, kept);
            }
        }

        int countSame(int place, int other) {
            int longest = count - Math.max(place, other);
            int same = 0;
            while (same < longest && at(row, place + same) == at(row, other + same)) {
                same++;
            }
            return same;
        }

        int greatestLetter(int from, int to) {
            int greatest = 0;
            for (int place = from; place < to; place++) {
                greatest = Math.max(greatest, at(row, place));
            }
            return greatest;
        }

        boolean keepsPeriod(int from, int to, int distance) {
            for (int place = from + distance; place < to; place++) {
                if (at(row, place) != at(row, place - distance)) {
                    return false;
                }
            }
            return true;
        }

        int firstPeriod(int from, int to) {
            int distance = 1;
            while (distance < to - from && !keepsPeriod(from, to, distance)) {
                distance++;
            }
            return distance;
        }
    }

    /** The factors of a text by Duval's algorithm: each is the longest Lyndon word where the one before it ended. */
    private static final class Factors {
        private final int[] starts = new int[MOST_LETTERS + 1];
        private int count = 0;

        int count() {
            return count;
        }

        int start(int factor) {
            return at(starts, factor);
        }

        void find(Letters text) {
            int start = 0;
            count = 0;
            while (start < text.count() && count < MOST_LETTERS) {
                put(starts, count, start);
                count++;
                start += firstLength(text, start, text.count(), false);
            }
            // The end stands behind the last start, so that each factor's length is a difference.
            put(starts, count, text.count());
        }

        int numberOver(int place) {
            int factor = 0;
            while (factor < count - 1 && at(starts, factor + 1) <= place) {
                factor++;
            }
            return factor;
        }

        static boolean isOneFactor(Letters text, int from, int to) {
            return firstLength(text, from, to, false) == to - from;
        }

        /**
         * Duval's scan: what is passed is a Lyndon word again and again, and the beginning of one more. A greater
         * letter than that beginning has makes all that is passed one Lyndon word, a lesser one ends the scan.
         */
        static int firstLength(Letters text, int from, int to, boolean isReversed) {
            int found = 1;
            for (int place = from + 1; place < to; place++) {
                int rise = text.letter(place) - text.letter(place - found);
                if (isReversed) {
                    rise = -rise;
                }
                if (rise < 0) {
                    return found;
                }
                if (rise > 0) {
                    found = place + 1 - from;
                }
            }
            return found;
        }
    }

    /** The rotations of a part, each told by how many letters it is rotated. */
    private static final class Rotations {
        static int letter(Letters text, int from, int to, int index) {
            int size = to - from;
            return size > 0 ? text.letter(from + index % size) : 0;
        }

        static int least(Letters text, int from, int to) {
            int best = 0;
            for (int shift = 1; shift < to - from; shift++) {
                if (difference(text, from, to, shift, best) < 0) {
                    best = shift;
                }
            }
            return best;
        }

        static int greatest(Letters text, int from, int to) {
            int best = 0;
            for (int shift = 1; shift < to - from; shift++) {
                if (difference(text, from, to, shift, best) > 0) {
                    best = shift;
                }
            }
            return best;
        }

        private static int difference(Letters text, int from, int to, int shift, int otherShift) {
            int found = 0;
            for (int index = 0; index < to - from && found == 0; index++) {
                found = letter(text, from, to, shift + index) - letter(text, from, to, otherShift + index);
            }
            return found;
        }
    }

    /** The longest border of each prefix of a part, told by the length of the prefix. */
    private static final class Borders {
        private final int[] row = new int[MOST_LETTERS + 1];

        int longest(Letters text, int from, int to) {
            put(row, 1, 0);
            for (int prefix = 1; prefix < to - from; prefix++) {
                put(row, prefix + 1, widened(text, from, prefix));
            }
            return at(row, to - from);
        }

        /** The longest border of the prefix with one letter more: the longest one of this prefix that it goes on. */
        private int widened(Letters text, int from, int prefix) {
            int added = text.letter(from + prefix);
            int border = at(row, prefix);
            for (int tries = 0; tries < prefix && border > 0 && text.letter(from + border) != added; tries++) {
                border = at(row, border);
            }
            return text.letter(from + border) == added ? border + 1 : 0;
        }

        int leastPeriod(Letters text, int from, int to) {
            return to - from - longest(text, from, to);
        }

        /** How many borders there are, the empty one too: each period leaves one of them, and each is left by one. */
        int countAll(Letters text, int from, int to) {
            int border = longest(text, from, to);
            int counted = 1;
            while (border > 0 && counted < MOST_LETTERS) {
                border = at(row, border);
                counted++;
            }
            return counted;
        }

        int rootSize(Letters text, int from, int to) {
            int least = leastPeriod(text, from, to);
            return least > 0 && (to - from) % least == 0 ? least : to - from;
        }
    }

    /** All runs of a text, in their order. A text has fewer runs than letters, so the rows are long enough. */
    private static final class Runs {
        private final int[] starts = new int[MOST_LETTERS];
        private final int[] ends = new int[MOST_LETTERS];
        private final int[] distances = new int[MOST_LETTERS];
        private int count = 0;

        int count() {
            return count;
        }

        int start(int run) {
            return at(starts, run);
        }

        int end(int run) {
            return at(ends, run);
        }

        int size(int run) {
            return at(ends, run) - at(starts, run);
        }

        int leastPeriod(int run) {
            return at(distances, run);
        }

        void find(Letters text) {
            count = 0;
            for (int start = 0; start < text.count(); start++) {
                for (int distance = 1; start + 2 * distance <= text.count(); distance++) {
                    findOne(text, start, distance);
                }
            }
        }

        private void findOne(Letters text, int start, int distance) {
            if (start > 0 && text.letter(start - 1) == text.letter(start - 1 + distance)) {
                return;
            }
            int end = start + distance + text.countSame(start, start + distance);
            if (end - start >= 2 * distance && text.firstPeriod(start, end) == distance && count < MOST_LETTERS) {
                put(starts, count, start);
                put(ends, count, end);
                put(distances, count, distance);
                count++;
            }
        }
    }

    /** The rank of each suffix of a text, told by its first place. */
    private static final class Suffixes {
        private final int[] ranks = new int[MOST_LETTERS + 1];

        int rank(int place) {
            return at(ranks, place);
        }

        /** From the last suffix on: two with the same first letter stand as the two behind it, ranked by then. */
        void find(Letters text) {
            // The empty suffix is not ranked, but is less than each that is.
            put(ranks, text.count(), -1);
            for (int place = text.count() - 1; place >= 0; place--) {
                putInOrder(text, place);
            }
        }

        private void putInOrder(Letters text, int place) {
            int rank = 0;
            for (int later = place + 1; later < text.count(); later++) {
                if (isLess(text, later, place)) {
                    rank++;
                }
            }
            for (int later = place + 1; later < text.count(); later++) {
                if (at(ranks, later) >= rank) {
                    put(ranks, later, at(ranks, later) + 1);
                }
            }
            put(ranks, place, rank);
        }

        private boolean isLess(Letters text, int place, int other) {
            int difference = text.letter(place) - text.letter(other);
            return difference != 0 ? difference < 0 : at(ranks, place + 1) < at(ranks, other + 1);
        }
    }

    /**
     * Goes through the necklaces of some length in rising order. Its steps are the words that are a Lyndon word,
     * its root, again and again, the last time perhaps not to its end; if to its end, the word is a necklace.
     * A word is packed into a number, three bits a letter, so that the lesser word is the lesser number.
     */
    private static final class NecklaceWalk {
        private static final int BITS = 3;
        private static final int LETTER_MASK = 7;
        private static final int MOST_STEPS = 1 << 20;

        private int greatest = 0;
        private int size = 1;
        private int word = 0;
        private int root = 1;

        static int pack(int packed, int letter) {
            return (packed << BITS) | (letter & LETTER_MASK);
        }

        void begin(int letters, int letterCount) {
            greatest = letters - 1;
            size = letterCount;
            word = 0;
            root = 1;
        }

        int root() {
            return root;
        }

        int letter(int index) {
            return (word >> (BITS * (size - 1 - index))) & LETTER_MASK;
        }

        boolean toNextNecklace() {
            for (int steps = 0; steps < MOST_STEPS && toNextWord(); steps++) {
                if (root > 0 && size % root == 0) {
                    return true;
                }
            }
            return false;
        }

        int countAhead(int packed) {
            int ahead = 0;
            while (ahead < MOST_STEPS && word < packed && toNextNecklace()) {
                ahead++;
            }
            return ahead;
        }

        /** The last letter that can rise does; what it ends is the new root. */
        private boolean toNextWord() {
            int left = word;
            int kept = size;
            while (kept > 0 && (left & LETTER_MASK) == greatest) {
                left = left >> BITS;
                kept--;
            }
            if (kept == 0) {
                return false;
            }
            root = kept;
            word = left + 1;
            for (int filled = kept; filled < size; filled++) {
                word = pack(word, word >> (BITS * (root - 1)));
            }
            return true;
        }
    }

    /** How many words of a kind there are. */
    private static final class Numbers {
        static long power(int base, int exponent) {
            long product = 1;
            for (int factor = 0; factor < exponent; factor++) {
                product *= base;
            }
            return product;
        }

        /** Each necklace is a power of one Lyndon word, and that one's length divides its own. */
        static long necklaceCount(int letters, int size) {
            long sum = 0;
            for (int divisor = 1; divisor <= size; divisor++) {
                if (size % divisor == 0) {
                    sum += lyndonCount(letters, divisor);
                }
            }
            return sum;
        }

        /** The words that are no powers, by Moebius's inversion; as many of them as letters are rotations of one. */
        static long lyndonCount(int letters, int size) {
            long sum = 0;
            for (int divisor = 1; divisor <= size; divisor++) {
                if (size % divisor == 0) {
                    sum += moebius(divisor) * power(letters, size / divisor);
                }
            }
            return size > 0 ? sum / size : 0;
        }

        private static int moebius(int number) {
            int rest = number;
            int sign = 1;
            for (int prime = 2; prime <= number; prime++) {
                if (rest % prime == 0) {
                    rest = rest / prime;
                    sign = -sign;
                    if (rest % prime == 0) {
                        return 0;
                    }
                }
            }
            return sign;
        }
    }
}
