import java.util.ArrayList;
import java.util.List;
import java.util.TreeSet;
import java.util.regex.Pattern;

/**
 * The document, done the long way round: every number up to the bound stands in a list, states are kept
 * whole, and nothing of the class under test is used.
 */
final class Model {
    private static final int HIGHEST = 99999;
    private static final boolean[] PRIME = new boolean[HIGHEST + 1];
    private static final int[] LEAST = new int[HIGHEST + 1];
    private static final int[] PARTS = new int[HIGHEST + 1];
    private static final List<Integer> PRIMES = new ArrayList<>();

    static {
        for (int x = 2; x <= HIGHEST; x++) {
            int rest = x;
            for (int d = 2; d * d <= rest; d++) {
                while (rest % d == 0) {
                    note(x, d);
                    rest /= d;
                }
            }
            if (rest > 1) {
                note(x, rest);
            }
            PRIME[x] = LEAST[x] == x;
            if (PRIME[x]) {
                PRIMES.add(x);
            }
        }
    }

    private static void note(int x, int factor) {
        PARTS[x]++;
        if (LEAST[x] == 0) {
            LEAST[x] = factor;
        }
    }

    /** A bound, the primes that came (0 less the prime if spared), and which numbers are left. */
    static final class State {
        int n;
        List<Integer> came = new ArrayList<>();
        boolean[] left;

        State(int n) {
            begin(n);
        }

        State(State other) {
            n = other.n;
            came = new ArrayList<>(other.came);
            left = other.left.clone();
        }

        void begin(int bound) {
            n = bound;
            came = new ArrayList<>();
            left = new boolean[n + 1];
            java.util.Arrays.fill(left, 1, n + 1, true);
        }

        int next() {
            if (came.size() == 40 || PRIMES.get(came.size()) > n) {
                return -1;
            }
            return PRIMES.get(came.size());
        }

        int needNext() {
            if (next() < 0) {
                throw new IllegalStateException();
            }
            return next();
        }

        int strike() {
            int p = needNext();
            int hits = 0;
            for (int m = p; m <= n; m += p) {
                hits += left[m] ? 1 : 0;
                left[m] = false;
            }
            came.add(p);
            return hits;
        }

        int spare() {
            int p = needNext();
            came.add(-p);
            return p;
        }

        int strikeTo(int most) {
            need(most >= 0 && most <= HIGHEST);
            int strikes = 0;
            while (next() > 0 && next() <= most) {
                strike();
                strikes++;
            }
            return strikes;
        }

        int bound(int bound) {
            need(bound >= 1 && bound <= HIGHEST);
            int old = n;
            begin(bound);
            return old;
        }

        int again() {
            int old = came.size();
            begin(n);
            return old;
        }

        int count(int v) {
            int count = 0;
            for (int x = 1; x <= v; x++) {
                count += left[x] ? 1 : 0;
            }
            return count;
        }

        List<Integer> quotients() {
            TreeSet<Integer> all = new TreeSet<>();
            for (int k = 1; k <= n; k++) {
                all.add(n / k);
            }
            return new ArrayList<>(all.descendingSet());
        }
    }

    private final StringBuilder text = new StringBuilder();
    private State now = new State(100);
    private final List<State> remembered = new ArrayList<>();
    private final State[] slots = new State[2];

    private static void need(boolean inRange) {
        if (!inRange) {
            throw new IllegalArgumentException();
        }
    }

    private int quotientAt(int q) {
        List<Integer> all = now.quotients();
        if (q < 0 || q >= all.size()) {
            throw new IndexOutOfBoundsException();
        }
        return all.get(q);
    }

    private void remember() {
        remembered.add(new State(now));
        if (remembered.size() > 14) {
            remembered.remove(0);
        }
    }

    int append(int c) {
        need(c >= 0 && c <= 255);
        if (text.length() == 60) {
            throw new IllegalStateException();
        }
        text.append((char) c);
        return text.length();
    }

    int clearText() {
        int old = text.length();
        text.setLength(0);
        return old;
    }

    private static final String WORD = "(bound[1-9][0-9]{0,4}|strike[2-9]?|spare[2-9]?|again)";
    private static final Pattern TABLE = Pattern.compile(WORD + "(," + WORD + ")*");
    private static final String[] ENDS = {"bound1", "strike", "spare", "again"};

    private static boolean canGrowToTable(String start) {
        for (String end : ENDS) {
            for (int i = 0; i <= end.length(); i++) {
                if (TABLE.matcher(start + end.substring(i)).matches()) {
                    return true;
                }
            }
        }
        return false;
    }

    int errorPosition() {
        String all = text.toString();
        if (TABLE.matcher(all).matches()) {
            return -1;
        }
        for (int i = 0; i < all.length(); i++) {
            if (!canGrowToTable(all.substring(0, i + 1))) {
                return i;
            }
        }
        return all.length();
    }

    int load() {
        if (!TABLE.matcher(text).matches()) {
            throw new IllegalStateException();
        }
        now = new State(100);
        remembered.clear();
        slots[0] = null;
        slots[1] = null;
        int leftOut = 0;
        for (String word : text.toString().split(",")) {
            String letters = word.replaceAll("[0-9]", "");
            String digits = word.replaceAll("[a-z]", "");
            if (letters.equals("bound")) {
                now.bound(Integer.parseInt(digits));
            } else if (letters.equals("again")) {
                now.again();
            } else {
                int times = digits.isEmpty() ? 1 : Integer.parseInt(digits);
                for (int i = 0; i < times; i++) {
                    leftOut += tried(letters.equals("strike") ? now::strike : now::spare) ? 0 : 1;
                }
            }
        }
        return leftOut;
    }

    private static boolean tried(Runnable call) {
        try {
            call.run();
            return true;
        } catch (IllegalStateException | IllegalArgumentException thrown) {
            return false;
        }
    }

    int about(int what) {
        switch (what) {
            case 0: return now.n;
            case 1: return now.quotients().size();
            case 2: return (int) now.came.stream().filter(p -> p > 0).count();
            case 3: return (int) now.came.stream().filter(p -> p < 0).count();
            case 4: return now.count(now.n);
            case 5: return now.next();
            case 6: return now.came.isEmpty() ? -1 : Math.abs(now.came.get(now.came.size() - 1));
            default: throw new IllegalArgumentException();
        }
    }

    int quotient(int q) {
        return quotientAt(q);
    }

    int quotientOf(int v) {
        return now.quotients().indexOf(v);
    }

    int left(int q) {
        return now.count(quotientAt(q));
    }

    long sumLeft(int q) {
        int v = quotientAt(q);
        long sum = 0;
        for (int x = 1; x <= v; x++) {
            sum += now.left[x] ? x : 0;
        }
        return sum;
    }

    int restLeft(int q, int rest) {
        int v = quotientAt(q);
        need(rest >= 0 && rest <= 3);
        int count = 0;
        for (int x = 1; x <= v; x++) {
            count += now.left[x] && x % 4 == rest ? 1 : 0;
        }
        return count;
    }

    int came(int k) {
        need(k >= 0);
        return k < now.came.size() ? now.came.get(k) : 0;
    }

    int bound(int n) {
        need(n >= 1 && n <= HIGHEST);
        remember();
        return now.bound(n);
    }

    int strike() {
        now.needNext();
        remember();
        return now.strike();
    }

    int spare() {
        now.needNext();
        remember();
        return now.spare();
    }

    int strikeTo(int most) {
        need(most >= 0 && most <= HIGHEST);
        remember();
        return now.strikeTo(most);
    }

    int again() {
        remember();
        return now.again();
    }

    int undo() {
        if (remembered.isEmpty()) {
            throw new IllegalStateException();
        }
        now = remembered.remove(remembered.size() - 1);
        return remembered.size();
    }

    int wouldStrike(int q) {
        int v = quotientAt(q);
        if (now.next() < 0) {
            return 0;
        }
        State copy = new State(now);
        copy.strike();
        return now.count(v) - copy.count(v);
    }

    private interface Test {
        boolean of(int x);
    }

    private static int countNumbers(int low, int high, Test test) {
        int count = 0;
        for (int x = low; x <= high; x++) {
            count += test.of(x) ? 1 : 0;
        }
        return count;
    }

    int primes(int x) {
        need(x >= 0 && x <= HIGHEST);
        return countNumbers(0, x, y -> PRIME[y]);
    }

    long sumOf(int x) {
        need(x >= 0 && x <= HIGHEST);
        long sum = 0;
        for (int y = 0; y <= x; y++) {
            sum += PRIME[y] ? y : 0;
        }
        return sum;
    }

    int inSpan(int low, int high) {
        need(low >= 0 && low <= HIGHEST);
        need(high >= low && high <= HIGHEST);
        return countNumbers(low, high, y -> PRIME[y]);
    }

    int byRest(int x, int rest) {
        need(x >= 0 && x <= HIGHEST);
        need(rest >= 0 && rest <= 3);
        return countNumbers(0, x, y -> PRIME[y] && y % 4 == rest);
    }

    int prime(int k) {
        need(k >= 1 && k <= 9592);
        return PRIMES.get(k - 1);
    }

    int leastFactor(int x) {
        need(x >= 2 && x <= HIGHEST);
        return LEAST[x];
    }

    int withLeast(int x, int p) {
        need(x >= 1 && x <= HIGHEST);
        need(p >= 2 && p <= HIGHEST);
        return countNumbers(2, x, y -> LEAST[y] == p);
    }

    int twoFactors(int x) {
        need(x >= 0 && x <= HIGHEST);
        return countNumbers(0, x, y -> PARTS[y] == 2);
    }

    int runScript(int n, long script) {
        need(n >= 1 && n <= 3);
        need(script >= 0 && Long.toString(script).length() <= 6 * n);
        String digits = Long.toString(script);
        digits = "0".repeat(6 * n - digits.length()) + digits;
        State copy = new State(now);
        for (int i = 0; i < n; i++) {
            if (!succeeds(copy, digits.substring(6 * i, 6 * i + 6))) {
                return i;
            }
        }
        return -1;
    }

    private static boolean succeeds(State copy, String command) {
        int number = Integer.parseInt(command.substring(1));
        switch (command.charAt(0)) {
            case '1': return tried(() -> copy.bound(number));
            case '2': return number == 0 && tried(copy::strike);
            case '3': return number == 0 && tried(copy::spare);
            case '4': return tried(() -> copy.strikeTo(number));
            case '5': return number == 0 && tried(copy::again);
            case '6': return copy.count(copy.n) >= number;
            case '7': return copy.count(copy.n) <= number;
            case '8': return copy.quotients().contains(number);
            case '9': return number > 0 && copy.came.contains(number);
            default: return false;
        }
    }

    int simulate(long seed, int m) {
        need(m >= 1 && m <= 60);
        State copy = new State(now);
        long x = seed;
        for (int i = 0; i < m; i++) {
            x = x * 6364136223846793005L + 1442695040888963407L;
            int r = (int) (x >>> 33);
            switch (r % 8) {
                case 0: tried(() -> copy.bound(1 + r / 8 % 3000)); break;
                case 1: copy.again(); break;
                case 2: case 3: tried(copy::spare); break;
                default: tried(copy::strike); break;
            }
        }
        return copy.count(copy.n);
    }

    int save(int slot) {
        needSlot(slot);
        slots[slot] = new State(now);
        return now.n;
    }

    int restore(int slot) {
        needSlot(slot);
        if (slots[slot] == null) {
            throw new IllegalStateException();
        }
        now = new State(slots[slot]);
        remembered.clear();
        return now.n;
    }

    private static void needSlot(int slot) {
        if (slot < 0 || slot > 1) {
            throw new IndexOutOfBoundsException();
        }
    }
}
