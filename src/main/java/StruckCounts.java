/**
 * Numbers up to a bound that are struck by primes, counted without a list of the numbers: a state is
 * only the bound and which of the first primes came and struck, and what is left is tallied for the
 * quotients of the bound alone.
 */
public final class StruckCounts {
    public static final int NONE = -1;

    private static final int HIGHEST = 99999;
    private static final int FIRST_BOUND = 100;
    private static final int MOST_CAME = 40;
    private static final int MOST_SIGNS = 60;
    private static final int MOST_REMEMBERED = 14;
    private static final int SLOTS = 2;
    private static final int HIGHEST_RANK = 9592;
    private static final int MOST_COMMANDS = 3;
    private static final int MOST_TURNS = 60;

    /** All primes whose square is not above HIGHEST; the first MOST_CAME of them are those that come. */
    private static final int[] SMALL_PRIMES = {
        2, 3, 5, 7, 11, 13, 17, 19, 23, 29, 31, 37, 41, 43, 47, 53, 59, 61, 67, 71,
        73, 79, 83, 89, 97, 101, 103, 107, 109, 113, 127, 131, 137, 139, 149, 151, 157, 163, 167, 173,
        179, 181, 191, 193, 197, 199, 211, 223, 227, 229, 233, 239, 241, 251, 257, 263, 269, 271, 277, 281,
        283, 293, 307, 311, 313
    };

    private static final int GROUP = 1000000;
    /** The scripts of k commands are those below GROUP_POWERS[k]. */
    private static final long[] GROUP_POWERS = {1L, 1000000L, 1000000000000L, 1000000000000000000L};

    private static final Word[] WORDS = Word.values();

    private final Text text = new Text();
    private final Board board = new Board();
    private final Store store = new Store();
    private final Primes primeRow = new Primes();
    /** Scratch for whatever must not change the state; nothing of it is kept from call to call. */
    private final Board trial = new Board();

    public StruckCounts() {
    }

    // ---- text

    public int append(int c) throws IllegalArgumentException, IllegalStateException {
        if (outside(c, 0, 255)) {
            throw new IllegalArgumentException("the character code is not 0 to 255");
        }
        if (text.length >= MOST_SIGNS) {
            throw new IllegalStateException("the text is full");
        }
        text.add((char) c);
        return text.length;
    }

    public int clearText() {
        int previous = text.length;
        text.length = 0;
        return previous;
    }

    public int errorPosition() {
        return text.findFault();
    }

    public int load() throws IllegalStateException {
        if (text.findFault() != NONE) {
            throw new IllegalStateException("the text is not a table");
        }
        store.empty();
        board.begin(FIRST_BOUND);
        int leftOut = 0;
        text.rewind();
        for (int i = 0; i < MOST_SIGNS && text.readWord(); i++) {
            leftOut += obeyWord(text.word, text.number);
        }
        return leftOut;
    }

    /** Returns how many calls are left out. */
    private int obeyWord(Word word, int number) {
        if (word == Word.BOUND) {
            board.begin(number);
            return 0;
        }
        if (word == Word.AGAIN) {
            board.begin(board.bound);
            return 0;
        }
        int times = Math.max(1, number);
        for (int done = 0; done < times; done++) {
            if (!board.letCome(word == Word.STRIKE)) {
                return times - done;
            }
        }
        return 0;
    }

    // ---- what there is

    public int about(int what) throws IllegalArgumentException {
        switch (what) {
            case 0:
                return board.bound;
            case 1:
                return board.tally().size;
            case 2:
                return Long.bitCount(board.struck);
            case 3:
                return board.came - Long.bitCount(board.struck);
            case 4:
                return board.countLeft();
            case 5:
                return board.nextPrime();
            case 6:
                return board.primeAt(board.came - 1);
            default:
                throw new IllegalArgumentException("there is no such number to tell");
        }
    }

    public int quotient(int q) throws IndexOutOfBoundsException {
        checkQuotient(q);
        return board.tally().valueAt(q);
    }

    public int quotientOf(int v) {
        return board.tally().placeOf(v);
    }

    public int left(int q) throws IndexOutOfBoundsException {
        checkQuotient(q);
        return board.tally().countAt(q);
    }

    public long sumLeft(int q) throws IndexOutOfBoundsException {
        checkQuotient(q);
        return board.tally().sumAt(q);
    }

    public int restLeft(int q, int rest) throws IndexOutOfBoundsException, IllegalArgumentException {
        checkQuotient(q);
        if (outside(rest, 0, 3)) {
            throw new IllegalArgumentException("the rest is not 0 to 3");
        }
        return board.tally().restAt(q, rest);
    }

    public int came(int k) throws IllegalArgumentException {
        if (k < 0) {
            throw new IllegalArgumentException("k is negative");
        }
        if (k >= board.came) {
            return 0;
        }
        int prime = board.primeAt(k);
        return board.hasStruck(k) ? prime : -prime;
    }

    // ---- actions

    public int bound(int n) throws IllegalArgumentException {
        if (outside(n, 1, HIGHEST)) {
            throw new IllegalArgumentException("the bound is not 1 to 99999");
        }
        store.remember(board);
        int previous = board.bound;
        board.begin(n);
        return previous;
    }

    public int strike() throws IllegalStateException {
        checkNextPrime();
        store.remember(board);
        int before = board.countLeft();
        board.letCome(true);
        return before - board.countLeft();
    }

    public int spare() throws IllegalStateException {
        checkNextPrime();
        store.remember(board);
        int prime = board.nextPrime();
        board.letCome(false);
        return prime;
    }

    public int strikeTo(int most) throws IllegalArgumentException {
        if (outside(most, 0, HIGHEST)) {
            throw new IllegalArgumentException("the number is not 0 to 99999");
        }
        store.remember(board);
        return board.letStrikeUpTo(most);
    }

    public int again() {
        store.remember(board);
        int previous = board.came;
        board.begin(board.bound);
        return previous;
    }

    public int undo() throws IllegalStateException {
        if (store.remembered == 0) {
            throw new IllegalStateException("no state is remembered");
        }
        store.takeBack(board);
        return store.remembered;
    }

    // ---- what would be

    public int wouldStrike(int q) throws IndexOutOfBoundsException {
        checkQuotient(q);
        int prime = board.nextPrime();
        return prime == NONE ? 0 : board.tally().multiplesAt(q, prime);
    }

    // ---- primes, whatever the bound is, and whatever came

    public int primes(int x) throws IllegalArgumentException {
        checkUpToHighest(x, 0);
        return primeRow.countUpTo(x);
    }

    public long sumOf(int x) throws IllegalArgumentException {
        checkUpToHighest(x, 0);
        return primeRow.sumUpTo(x);
    }

    public int inSpan(int low, int high) throws IllegalArgumentException {
        checkUpToHighest(low, 0);
        checkUpToHighest(high, low);
        return primeRow.countUpTo(high) - primeRow.countUpTo(low - 1);
    }

    public int byRest(int x, int rest) throws IllegalArgumentException {
        checkUpToHighest(x, 0);
        if (outside(rest, 0, 3)) {
            throw new IllegalArgumentException("the rest is not 0 to 3");
        }
        return primeRow.countByRest(x, rest);
    }

    public int prime(int k) throws IllegalArgumentException {
        if (outside(k, 1, HIGHEST_RANK)) {
            throw new IllegalArgumentException("the rank is not 1 to 9592");
        }
        return primeRow.ofRank(k);
    }

    public int leastFactor(int x) throws IllegalArgumentException {
        checkUpToHighest(x, 2);
        return Primes.leastDividing(x);
    }

    public int withLeast(int x, int p) throws IllegalArgumentException {
        checkUpToHighest(x, 1);
        checkUpToHighest(p, 2);
        if (p > x || Primes.leastDividing(p) != p) {
            return 0;
        }
        // The numbers with p as their least factor are p times what the primes below p leave up to x / p.
        // A prime of that span is below 317, even where p is not.
        trial.begin(x / p);
        Tally others = trial.tally();
        for (int smaller : SMALL_PRIMES) {
            if (smaller < p) {
                others.remove(smaller);
            }
        }
        return others.countAt(0);
    }

    public int twoFactors(int x) throws IllegalArgumentException {
        checkUpToHighest(x, 0);
        int pairs = 0;
        for (int i = 0; i < SMALL_PRIMES.length; i++) {
            int lesser = SMALL_PRIMES[i];
            if (lesser * lesser > x) {
                break;
            }
            // The i primes below the lesser one would tell a pair a second time.
            pairs += primeRow.countUpTo(x / lesser) - i;
        }
        return pairs;
    }

    // ---- scripts, simulations

    public int runScript(int n, long script) throws IllegalArgumentException {
        if (outside(n, 1, MOST_COMMANDS)) {
            throw new IllegalArgumentException("the number of commands is not 1 to 3");
        }
        if (script < 0 || script >= GROUP_POWERS[n]) {
            throw new IllegalArgumentException("the script is negative or too long");
        }
        trial.copyOf(board);
        for (int i = 0; i < n; i++) {
            int group = (int) (script / GROUP_POWERS[n - 1 - i] % GROUP);
            if (!obeyCommand(group / 100000, group % 100000)) {
                return i;
            }
        }
        return NONE;
    }

    /** Returns whether the command succeeds on the trial board. */
    private boolean obeyCommand(int kind, int number) {
        switch (kind) {
            case 1:
                if (number < 1) {
                    return false;
                }
                trial.begin(number);
                return true;
            case 2:
                return number == 0 && trial.letCome(true);
            case 3:
                return number == 0 && trial.letCome(false);
            case 4:
                trial.letStrikeUpTo(number);
                return true;
            case 5:
                if (number != 0) {
                    return false;
                }
                trial.begin(trial.bound);
                return true;
            case 6:
                return trial.countLeft() >= number;
            case 7:
                return trial.countLeft() <= number;
            case 8:
                return trial.tally().placeOf(number) != NONE;
            case 9:
                return trial.wasStruckBy(number);
            default:
                return false;
        }
    }

    public int simulate(long seed, int m) throws IllegalArgumentException {
        if (outside(m, 1, MOST_TURNS)) {
            throw new IllegalArgumentException("the number of turns is not 1 to 60");
        }
        trial.copyOf(board);
        long x = seed;
        for (int i = 0; i < m; i++) {
            x = x * 6364136223846793005L + 1442695040888963407L;
            takeTurn((int) (x >>> 33));
        }
        return trial.countLeft();
    }

    private void takeTurn(int r) {
        switch (r % 8) {
            case 0:
                trial.begin(1 + r / 8 % 3000);
                break;
            case 1:
                trial.begin(trial.bound);
                break;
            case 2:
            case 3:
                trial.letCome(false);
                break;
            default:
                trial.letCome(true);
                break;
        }
    }

    // ---- save slots

    public int save(int slot) throws IndexOutOfBoundsException {
        checkSlot(slot);
        store.keepInSlot(slot, board);
        return board.bound;
    }

    public int restore(int slot) throws IndexOutOfBoundsException, IllegalStateException {
        checkSlot(slot);
        if (!store.isKept(slot)) {
            throw new IllegalStateException("nothing has been saved in the slot");
        }
        store.showSlot(slot, board);
        store.remembered = 0;
        return board.bound;
    }

    // ---- what the methods above have in common

    private static boolean outside(int value, int low, int high) {
        return value < low || value > high;
    }

    private void checkQuotient(int q) {
        if (q < 0 || q >= board.tally().size) {
            throw new IndexOutOfBoundsException("there is no such quotient");
        }
    }

    private void checkNextPrime() {
        if (board.nextPrime() == NONE) {
            throw new IllegalStateException("no prime can come");
        }
    }

    private static void checkUpToHighest(int value, int low) {
        if (outside(value, low, HIGHEST)) {
            throw new IllegalArgumentException("the number is out of its range");
        }
    }

    private static void checkSlot(int slot) {
        if (outside(slot, 0, SLOTS - 1)) {
            throw new IndexOutOfBoundsException("there is no such save slot");
        }
    }

    /** The words of a text, and the range of the number behind each. */
    private enum Word {
        BOUND("bound", 1, HIGHEST, true),
        STRIKE("strike", 2, 9, false),
        SPARE("spare", 2, 9, false),
        AGAIN("again", 1, 0, false);

        private final String spelling;
        private final int lowest;
        private final int highest;
        private final boolean needsNumber;

        Word(String spelling, int lowest, int highest, boolean needsNumber) {
            this.spelling = spelling;
            this.lowest = lowest;
            this.highest = highest;
            this.needsNumber = needsNumber;
        }
    }

    /** The text buffer, with a place up to which it is read. */
    private static final class Text {
        private final char[] signs = new char[MOST_SIGNS];
        private int length;
        private int at;
        private boolean wordIsDue;
        private int fault;
        private Word word;
        private int number;

        void add(char sign) {
            if (length < signs.length) {
                signs[length] = sign;
                length++;
            }
        }

        /** Returns the error position. */
        int findFault() {
            rewind();
            boolean more = true;
            for (int i = 0; i < MOST_SIGNS && more; i++) {
                more = readWord();
            }
            return fault;
        }

        void rewind() {
            at = 0;
            wordIsDue = true;
            fault = NONE;
        }

        /** Reads a word, its number and the comma behind; returns false if no word is due, or at a fault. */
        boolean readWord() {
            if (!wordIsDue) {
                return false;
            }
            wordIsDue = false;
            if (!readSpelling() || !readNumber()) {
                fault = at;
                return false;
            }
            if (at < length) {
                if (signs[at] != ',') {
                    fault = at;
                    return false;
                }
                at++;
                wordIsDue = true;
            }
            return true;
        }

        /** Goes as far as any word allows, so that a fault lies where reading stops. */
        private boolean readSpelling() {
            word = null;
            int furthest = 0;
            for (Word candidate : WORDS) {
                int same = countSameSigns(candidate.spelling);
                if (same == candidate.spelling.length()) {
                    word = candidate;
                }
                furthest = Math.max(furthest, same);
            }
            at += furthest;
            return word != null;
        }

        private int countSameSigns(String spelling) {
            int same = 0;
            while (same < spelling.length() && at + same < length
                    && signs[at + same] == spelling.charAt(same)) {
                same++;
            }
            return same;
        }

        /** Stops ahead of a digit that no number of the range allows: what stands there is not a comma. */
        private boolean readNumber() {
            number = 0;
            if (word == null) {
                return false;
            }
            while (at < length && signs[at] >= '0' && signs[at] <= '9') {
                int longer = 10 * number + (signs[at] - '0');
                if (outside(longer, word.lowest, word.highest)) {
                    break;
                }
                number = longer;
                at++;
            }
            return number > 0 || !word.needsNumber;
        }
    }

    /** A state: a bound and the primes that came, with the tally of what is left that follows from them. */
    private static final class Board {
        private final Tally tally = new Tally();
        /** How many of the primes that came are in the tally already; NONE if it is one of another state. */
        private int tallied;
        private int bound;
        private int came;
        /** Bit k is set if the prime at k came and struck. */
        private long struck;

        Board() {
            begin(FIRST_BOUND);
        }

        void begin(int n) {
            show(n, 0, 0);
        }

        void show(int n, int primes, long mask) {
            bound = n;
            came = primes;
            struck = mask;
            tallied = NONE;
        }

        void copyOf(Board other) {
            show(other.bound, other.came, other.struck);
        }

        /** The tally is dear, and many a state is left again before anyone asks for it. */
        Tally tally() {
            if (tallied == NONE) {
                tally.begin(bound);
                tallied = 0;
            }
            for (; tallied < came; tallied++) {
                if (hasStruck(tallied)) {
                    tally.remove(primeAt(tallied));
                }
            }
            return tally;
        }

        int countLeft() {
            return tally().countAt(0);
        }

        int primeAt(int k) {
            return k < 0 || k >= MOST_CAME ? NONE : SMALL_PRIMES[k];
        }

        boolean hasStruck(int k) {
            return (struck >>> k & 1) != 0;
        }

        boolean wasStruckBy(int prime) {
            for (int k = 0; k < came; k++) {
                if (primeAt(k) == prime) {
                    return hasStruck(k);
                }
            }
            return false;
        }

        int nextPrime() {
            int prime = primeAt(came);
            return prime > bound ? NONE : prime;
        }

        /** Returns whether a prime could come. */
        boolean letCome(boolean strikes) {
            if (nextPrime() == NONE) {
                return false;
            }
            if (strikes) {
                struck |= 1L << came;
            }
            came++;
            return true;
        }

        /** Returns how many primes strike. */
        int letStrikeUpTo(int most) {
            int strikes = 0;
            while (strikes < MOST_CAME && nextPrime() <= most && letCome(true)) {
                strikes++;
            }
            return strikes;
        }
    }

    /**
     * What is left, for each quotient of a bound: how many numbers by their rests of four, and their sum.
     * The multiples of a prime that are left up to v are the prime times what is left up to v / prime, as
     * long as the prime itself did not strike; and v / prime is a quotient of the bound again.
     */
    private static final class Tally {
        /** The bound 99999 has the most unlike quotients. */
        private static final int MOST_QUOTIENTS = 631;

        private final int[] values = new int[MOST_QUOTIENTS];
        private final int[] rests = new int[4 * MOST_QUOTIENTS];
        private final long[] sums = new long[MOST_QUOTIENTS];
        private int bound;
        private int size;

        void begin(int n) {
            bound = n;
            size = 0;
            int divisor = 1;
            while (size < MOST_QUOTIENTS && divisor >= 1 && divisor <= n) {
                int value = n / divisor;
                size++;
                fill(size - 1, value);
                divisor = n / Math.max(1, value) + 1;
            }
        }

        private void fill(int place, int value) {
            if (!has(place)) {
                return;
            }
            values[place] = value;
            sums[place] = value * (value + 1L) / 2;
            rests[4 * place] = value / 4;
            for (int rest = 1; rest < 4; rest++) {
                rests[4 * place + rest] = (value + 4 - rest) / 4;
            }
        }

        /** Returns where a quotient stands; NONE if the number is none. */
        int placeOf(int value) {
            if (value < 1 || value > bound) {
                return NONE;
            }
            int divisor = bound / value;
            if (divisor < 1 || bound / divisor != value) {
                return NONE;
            }
            // Every number up to the square root is a quotient, and so they are the last ones in the row.
            return value <= divisor ? size - value : divisor - 1;
        }

        private boolean has(int place) {
            return place >= 0 && place < size;
        }

        int valueAt(int place) {
            return has(place) ? values[place] : 0;
        }

        int countAt(int place) {
            int count = 0;
            for (int rest = 0; rest < 4; rest++) {
                count += restAt(place, rest);
            }
            return count;
        }

        int restAt(int place, int rest) {
            return has(place) && !outside(rest, 0, 3) ? rests[4 * place + rest] : 0;
        }

        long sumAt(int place) {
            return has(place) ? sums[place] : 0;
        }

        /** Returns how many multiples of a prime that did not strike are left. */
        int multiplesAt(int place, int prime) {
            return prime < 1 ? 0 : countAt(placeOf(valueAt(place) / prime));
        }

        /** Strikes the multiples of a prime that did not strike yet. */
        void remove(int prime) {
            if (prime < 2) {
                return;
            }
            // The greatest quotient first: what is taken from it must still be as it was ahead of this prime.
            for (int place = 0; place < MOST_QUOTIENTS && valueAt(place) >= prime; place++) {
                int source = placeOf(values[place] / prime);
                if (!has(source)) {
                    return;
                }
                sums[place] -= prime * sums[source];
                for (int rest = 0; rest < 4; rest++) {
                    rests[4 * place + (prime * rest & 3)] -= rests[4 * source + rest];
                }
            }
        }
    }

    /** The states that undo takes back, in a ring, and those in the save slots. */
    private static final class Store {
        private static final int PLACES = MOST_REMEMBERED + SLOTS;

        private final int[] bounds = new int[PLACES];
        private final int[] cames = new int[PLACES];
        private final long[] strucks = new long[PLACES];
        private int newest;
        private int remembered;

        void empty() {
            remembered = 0;
            for (int slot = 0; slot < SLOTS; slot++) {
                bounds[MOST_REMEMBERED + slot] = 0;
            }
        }

        void remember(Board board) {
            newest = (newest + 1) % MOST_REMEMBERED;
            put(newest, board);
            remembered = Math.min(remembered + 1, MOST_REMEMBERED);
        }

        void takeBack(Board board) {
            show(newest, board);
            newest = (newest + MOST_REMEMBERED - 1) % MOST_REMEMBERED;
            remembered = Math.max(remembered - 1, 0);
        }

        void keepInSlot(int slot, Board board) {
            put(MOST_REMEMBERED + slot, board);
        }

        /** A bound is never 0, so that 0 tells an empty slot. */
        boolean isKept(int slot) {
            int place = MOST_REMEMBERED + slot;
            return !outside(place, 0, PLACES - 1) && bounds[place] != 0;
        }

        void showSlot(int slot, Board board) {
            show(MOST_REMEMBERED + slot, board);
        }

        private void put(int place, Board board) {
            if (!outside(place, 0, PLACES - 1)) {
                bounds[place] = board.bound;
                cames[place] = board.came;
                strucks[place] = board.struck;
            }
        }

        private void show(int place, Board board) {
            if (!outside(place, 0, PLACES - 1)) {
                board.show(bounds[place], cames[place], strucks[place]);
            }
        }
    }

    /** Which odd numbers are primes: bit i of the row tells it of 2 * i + 1. */
    private static final class Primes {
        private static final int ROW_WORDS = 782;
        private static final int ROW_BITS = 64 * ROW_WORDS;
        private static final long ALL = -1L;
        private static final long REST_ONE = 0x5555555555555555L;

        private final long[] row = new long[ROW_WORDS];

        Primes() {
            for (int i = 0; i < ROW_WORDS; i++) {
                row[i] = ALL;
            }
            row[0] &= ~1L;
            for (int prime : SMALL_PRIMES) {
                // The square of 2 is even: 2 has no multiples in the row.
                for (int i = prime * prime / 2; prime > 2 && i < ROW_BITS; i += prime) {
                    row[i / 64] &= ~(1L << i % 64);
                }
            }
        }

        static int leastDividing(int x) {
            for (int prime : SMALL_PRIMES) {
                if (prime * prime > x) {
                    break;
                }
                if (x % prime == 0) {
                    return prime;
                }
            }
            return x;
        }

        int countUpTo(int x) {
            return countTwo(x) + countOdd(x, ALL);
        }

        int countByRest(int x, int rest) {
            switch (rest) {
                case 1:
                    return countOdd(x, REST_ONE);
                case 2:
                    return countTwo(x);
                case 3:
                    return countOdd(x, ~REST_ONE);
                default:
                    return 0;
            }
        }

        private static int countTwo(int x) {
            return x >= 2 ? 1 : 0;
        }

        private int countOdd(int x, long mask) {
            int count = 0;
            for (int i = 0; i < ROW_WORDS && 128 * i < x; i++) {
                count += Long.bitCount(wordUpTo(i, x) & mask);
            }
            return count;
        }

        long sumUpTo(int x) {
            long sum = 2 * countTwo(x);
            for (int i = 0; i < ROW_WORDS && 128 * i < x; i++) {
                long word = wordUpTo(i, x);
                for (int more = Long.bitCount(word); more > 0; more--) {
                    sum += lowestOf(i, word);
                    word &= word - 1;
                }
            }
            return sum;
        }

        /** Returns the word i of the row without the numbers above x. */
        private long wordUpTo(int i, int x) {
            if (outside(i, 0, ROW_WORDS - 1)) {
                return 0;
            }
            int bits = (x + 1) / 2 - 64 * i;
            if (bits >= 64) {
                return row[i];
            }
            return bits <= 0 ? 0 : row[i] & (1L << bits) - 1;
        }

        /** Returns the number of the lowest bit set in a word that is the word i of the row, or a part of it. */
        private static int lowestOf(int i, long word) {
            int bit = Long.bitCount((word & -word) - 1);
            return 2 * (64 * i + bit) + 1;
        }

        int ofRank(int k) {
            int more = k - 1;
            if (more < 1) {
                return 2;
            }
            for (int i = 0; i < ROW_WORDS; i++) {
                long word = row[i];
                int count = Long.bitCount(word);
                if (more <= count) {
                    for (; more > 1; more--) {
                        word &= word - 1;
                    }
                    return lowestOf(i, word);
                }
                more -= count;
            }
            return NONE;
        }
    }
}
