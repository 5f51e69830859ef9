import java.util.Arrays;
import java.util.Set;
import java.util.TreeSet;
import java.util.regex.Matcher;
import java.util.regex.Pattern;

/**
 * Every argument of a promise, or as many as take a few seconds, beside what simple counting finds: so a slip at one
 * number alone is seen too.
 */
public final class EveryTests extends Sentences {
    private static final int HIGHEST = 99999;
    private static final int MOST_CAME = 40;
    /** What an object answers after so many calls is free. */
    private static final int MOST_CALLS = 512;
    private static final int CALLS_TO_MAKE_A_STATE = 50;
    private static final int[] LEAST = leastFactors();
    private static final String ALL_STRIKE = "s".repeat(MOST_CAME);
    private static final String IN_TURNS = "s.".repeat(MOST_CAME / 2);

    private StruckCounts asked;
    private int calls;
    private int bound;
    private String turns;

    public static void main(String[] args) {
        new EveryTests().runAll(args);
    }

    private static int[] leastFactors() {
        int[] least = new int[HIGHEST + 1];
        for (int d = 2; d <= HIGHEST; d++) {
            for (int x = d; x <= HIGHEST; x += d) {
                least[x] = least[x] == 0 ? d : least[x];
            }
        }
        return least;
    }

    private static boolean isPrime(int x) {
        return x >= 2 && LEAST[x] == x;
    }

    private static boolean isPrimeTimesPrime(int x) {
        return x >= 2 && !isPrime(x) && isPrime(x / LEAST[x]);
    }

    /** From now on objects with this bound are asked, on which primes struck (s) or were spared (.) in turn. */
    private void state(int n, String strikesAndSpares) {
        bound = n;
        turns = strikesAndSpares;
        calls = MOST_CALLS;
    }

    /** Returns an object for one more call, in the state that was named last. */
    private StruckCounts ask() {
        if (calls >= MOST_CALLS) {
            asked = new StruckCounts();
            calls = CALLS_TO_MAKE_A_STATE;
            asked.bound(bound);
            for (char turn : turns.toCharArray()) {
                if (turn == 's') {
                    asked.strike();
                } else {
                    asked.spare();
                }
            }
        }
        calls++;
        return asked;
    }

    /** Returns such an object for several calls, before which it is made anew if they are too many. */
    private StruckCounts askFor(int more) {
        if (calls + more > MOST_CALLS) {
            calls = MOST_CALLS;
        }
        StruckCounts counts = ask();
        calls += more - 1;
        return counts;
    }

    // ---- primes

    @Sentence("20: Returns how many primes are not above x (x: 0 to 99999).")
    void primesOfEveryNumber() {
        state(100, "");
        int primes = 0;
        for (int x = 0; x <= HIGHEST; x++) {
            primes += isPrime(x) ? 1 : 0;
            due("primes(" + x + ")", primes, ask().primes(x));
        }
    }

    @Sentence("21: Returns the sum of the primes that are not above x (x: 0 to 99999).")
    void sumOfEveryNumber() {
        state(100, "");
        long sum = 0;
        for (int x = 0; x <= HIGHEST; x++) {
            sum += isPrime(x) ? x : 0;
            due("sumOf(" + x + ")", sum, ask().sumOf(x));
        }
    }

    @Sentence("22: Returns how many primes are from low to high (low: 0 to 99999, high: low to 99999).")
    void spansOfEveryNumber() {
        state(100, "");
        int[] upTo = new int[HIGHEST + 1];
        for (int x = 1; x <= HIGHEST; x++) {
            upTo[x] = upTo[x - 1] + (isPrime(x) ? 1 : 0);
        }
        for (int low = 0; low <= HIGHEST; low++) {
            for (int high : new int[] {low, Math.min(low + 70, HIGHEST), HIGHEST - (HIGHEST - low) / 3, HIGHEST}) {
                int below = low == 0 ? 0 : upTo[low - 1];
                due("inSpan(" + low + ", " + high + ")", upTo[high] - below, ask().inSpan(low, high));
            }
        }
    }

    @Sentence("23: Returns how many primes that are not above x have this rest, divided by 4 (x: 0 to 99999).")
    void restsOfEveryNumber() {
        state(100, "");
        int[] byRest = new int[4];
        for (int x = 0; x <= HIGHEST; x++) {
            byRest[x % 4] += isPrime(x) ? 1 : 0;
            for (int rest = 0; rest <= 3; rest++) {
                due("byRest(" + x + ", " + rest + ")", byRest[rest], ask().byRest(x, rest));
            }
        }
    }

    @Sentence("25: Returns the least prime that divides it (x: 2 to 99999).")
    void leastFactorOfEveryNumber() {
        state(100, "");
        for (int x = 2; x <= HIGHEST; x++) {
            due("leastFactor(" + x + ")", LEAST[x], ask().leastFactor(x));
        }
    }

    @Sentence("26: Returns how many numbers from 2 to x have p as their least factor; 0 if p is no prime.")
    void leastFactorsOfEveryNumber() {
        state(100, "");
        for (int p : new int[] {2, 3, 4, 5, 7, 31, 97, 311, 313, 317, 331}) {
            int found = 0;
            for (int x = 1; x <= HIGHEST; x++) {
                found += LEAST[x] == p ? 1 : 0;
                due("withLeast(" + x + ", " + p + ")", found, ask().withLeast(x, p));
            }
        }
        for (int x : new int[] {1, 2, 317, 30030, 97969, HIGHEST}) {
            int[] found = new int[HIGHEST + 1];
            for (int y = 2; y <= x; y++) {
                found[LEAST[y]]++;
            }
            for (int p = 2; p <= HIGHEST; p++) {
                due("withLeast(" + x + ", " + p + ")", found[p], ask().withLeast(x, p));
            }
        }
    }

    @Sentence("27: Returns how many numbers that are not above x are a prime times a prime (x: 0 to 99999).")
    void twoFactorsOfEveryNumber() {
        state(100, "");
        int pairs = 0;
        for (int x = 0; x <= HIGHEST; x++) {
            pairs += isPrimeTimesPrime(x) ? 1 : 0;
            due("twoFactors(" + x + ")", pairs, ask().twoFactors(x));
        }
    }

    // ---- bounds and quotients

    @Sentence("13: Changes the bound (n: 1 to 99999). 6: the unlike quotients. 14: Returns how many .. it strikes ..")
    void everyBound() {
        state(100, "");
        int unlike = 0;
        for (int n = 1; n <= HIGHEST; n++) {
            // With n come up a new quotient at each square and at each k * (k + 1).
            int root = (int) Math.sqrt(n);
            unlike += n == root * root || n == root * (root + 1) ? 1 : 0;
            StruckCounts x = askFor(8);
            x.bound(n);
            due("about(0) of " + n, n, x.about(0));
            due("about(1) of " + n, unlike, x.about(1));
            due("quotient(last) of " + n, 1, x.quotient(unlike - 1));
            due("sumLeft(0) of " + n, n * (n + 1L) / 2, x.sumLeft(0));
            due("about(5) of " + n, n < 2 ? NONE : 2, x.about(5));
            if (n >= 2) {
                due("strike() of " + n, n / 2, x.strike());
                due("about(4) of " + n, n - n / 2, x.about(4));
            }
        }
    }

    @Sentence("16: Primes strike .. Returns how many strike. 9, 10, 11: .. what is left")
    void whatAllStrikesLeaveOfManyBounds() {
        state(100, "");
        boolean[] left = leftBy(HIGHEST, ALL_STRIKE);
        int[] byRest = new int[4];
        long sum = 0;
        int primes = 0;
        for (int n = 1; n <= HIGHEST; n++) {
            primes += isPrime(n) ? 1 : 0;
            byRest[n % 4] += left[n] ? 1 : 0;
            sum += left[n] ? n : 0;
            int root = (int) Math.sqrt(n);
            if (n % 29 == 0 || n < 200 || n - root * root <= 1 || n - root * (root + 1) == 0) {
                StruckCounts x = askFor(9);
                x.bound(n);
                due("strikeTo(99999) of " + n, Math.min(primes, MOST_CAME), x.strikeTo(99999));
                due("left(0) of " + n, byRest[0] + byRest[1] + byRest[2] + byRest[3], x.left(0));
                due("sumLeft(0) of " + n, sum, x.sumLeft(0));
                for (int rest = 0; rest <= 3; rest++) {
                    due("restLeft(0, " + rest + ") of " + n, byRest[rest], x.restLeft(0, rest));
                }
                due("about(5) of " + n, NONE, x.about(5));
            }
        }
    }

    @Sentence("16: Primes strike, as long as the next one is not above a number (most: 0 to 99999) ..")
    void strikeToEveryNumber() {
        for (int n : new int[] {1, 2, 172, 173, HIGHEST}) {
            state(n, "");
            int primes = 0;
            for (int most = 0; most <= HIGHEST; most++) {
                primes += most <= n && isPrime(most) ? 1 : 0;
                StruckCounts x = askFor(2);
                due("strikeTo(" + most + ") of " + n, Math.min(primes, MOST_CAME), x.strikeTo(most));
                x.again();
            }
        }
    }

    /** Of each number from 1 to n whether it is left behind these turns. */
    private static boolean[] leftBy(int n, String strikesAndSpares) {
        boolean[] left = new boolean[n + 1];
        Arrays.fill(left, 1, n + 1, true);
        for (int prime : struckBy(strikesAndSpares)) {
            for (int x = prime; x <= n; x += prime) {
                left[x] = false;
            }
        }
        return left;
    }

    private static int primeAbove(int x) {
        int above = x + 1;
        while (!isPrime(above)) {
            above++;
        }
        return above;
    }

    @Sentence("7, 9, 10, 11, 19: every quotient")
    void everyQuotient() {
        for (int n : new int[] {HIGHEST, 99856, 99855, 99540, 99539, 65536, 30030, 5041, 173}) {
            everyQuotientOf(n, "");
            everyQuotientOf(n, ALL_STRIKE);
            everyQuotientOf(n, IN_TURNS);
            everyQuotientOf(n, ALL_STRIKE.substring(1));
            everyQuotientOf(n, ".".repeat(MOST_CAME - 2) + "s");
            everyQuotientOf(n, ".s.ss...s.");
            everyQuotientOf(n, "s");
        }
    }

    private void everyQuotientOf(int n, String strikesAndSpares) {
        state(n, strikesAndSpares);
        boolean[] left = leftBy(n, strikesAndSpares);
        boolean[] then = leftBy(n, strikesAndSpares.length() == MOST_CAME ? strikesAndSpares : strikesAndSpares + "s");
        Set<Integer> quotients = quotientsOf(n);
        int[] byRest = new int[4];
        long sum = 0;
        int struckNext = 0;
        int q = quotients.size();
        for (int v = 1; v <= n; v++) {
            byRest[v % 4] += left[v] ? 1 : 0;
            sum += left[v] ? v : 0;
            struckNext += left[v] && !then[v] ? 1 : 0;
            if (quotients.contains(v)) {
                q--;
                String of = " of quotient " + q + " (" + v + ") of " + n + ", " + strikesAndSpares;
                due("quotient()" + of, v, ask().quotient(q));
                due("left()" + of, byRest[0] + byRest[1] + byRest[2] + byRest[3], ask().left(q));
                due("sumLeft()" + of, sum, ask().sumLeft(q));
                for (int rest = 0; rest <= 3; rest++) {
                    due("restLeft() with " + rest + of, byRest[rest], ask().restLeft(q, rest));
                }
                due("wouldStrike()" + of, struckNext, ask().wouldStrike(q));
            }
        }
    }

    private static Set<Integer> quotientsOf(int n) {
        Set<Integer> unlike = new TreeSet<>();
        for (int divisor = 1; divisor <= n; divisor++) {
            unlike.add(n / divisor);
        }
        return unlike;
    }

    @Sentence("8: Returns which quotient it is, from 0; NONE if it is none (v: any number).")
    void everyNumberAsAQuotient() {
        for (int n : new int[] {HIGHEST, 99856, 99855, 99540, 99539, 65536, 100, 1}) {
            state(n, "");
            Set<Integer> quotients = quotientsOf(n);
            int q = quotients.size();
            for (int v = -n; v <= n + 1000; v++) {
                boolean isOne = quotients.contains(v);
                q -= isOne ? 1 : 0;
                due("quotientOf(" + v + ") of " + n, isOne ? q : NONE, ask().quotientOf(v));
            }
        }
    }

    // ---- text

    /** Also this tells where a text goes wrong: what stands ahead of that place can still become a table. */
    private static final Pattern TABLE = Pattern.compile(
            "(?:bound[1-9][0-9]{0,4}|(?:strike|spare)[2-9]?|again)(?:,(?:bound[1-9][0-9]{0,4}|(?:strike|spare)[2-9]?|again))*");

    private static int errorPositionOf(String text) {
        for (int length = 1; length <= text.length(); length++) {
            Matcher start = TABLE.matcher(text.substring(0, length));
            if (!start.matches() && !start.hitEnd()) {
                return length - 1;
            }
        }
        return TABLE.matcher(text).matches() ? NONE : text.length();
    }

    @Sentence("4: Returns the error position of the text (c: character code, 0 to 255).")
    void everySignAtEveryPlace() {
        state(100, "");
        for (String table : new String[] {
            "bound10203", "bound99999,s", "strike2,a", "spare9,b", "again,st", "strike,sp", "spare,bo", "strike9", "spare2"
        }) {
            for (int length = 0; length <= table.length(); length++) {
                for (int sign = 0; sign <= 255; sign++) {
                    String text = table.substring(0, length) + (char) sign;
                    due("errorPosition() of " + text, errorPositionOf(text), errorPositionAsked(text));
                }
            }
        }
    }

    private int errorPositionAsked(String text) {
        StruckCounts x = askFor(text.length() + 2);
        x.clearText();
        for (char sign : text.toCharArray()) {
            x.append(sign);
        }
        return x.errorPosition();
    }

    @Sentence("TEXT: .. \"bound\", with a number behind it, 1 to 99999; .. Numbers have no zeros ahead.")
    void everyBoundInAText() {
        state(100, "");
        for (int n = 1; n <= HIGHEST; n++) {
            due("errorPosition() of bound" + n, NONE, errorPositionAsked("bound" + n));
            StruckCounts x = askFor(13);
            x.clearText();
            for (char sign : ("bound" + n).toCharArray()) {
                x.append(sign);
            }
            due("load() of bound" + n, 0, x.load());
            due("about(0) of bound" + n, n, x.about(0));
        }
        for (int n = 100000; n <= 999999; n += 997) {
            due("errorPosition() of bound" + n, 10, errorPositionAsked("bound" + n));
        }
    }

    // ---- scripts, simulations

    @Sentence("28: .. each is a group of six decimal digits d1 to d6 ..")
    void everyCommand() {
        everyCommandOf(100, "s.", 50);
        everyCommandOf(HIGHEST, ALL_STRIKE, 10287);
        everyCommandOf(1, "", 1);
    }

    private void everyCommandOf(int n, String strikesAndSpares, int left) {
        state(n, strikesAndSpares);
        boolean canCome = strikesAndSpares.length() < MOST_CAME && n > 1;
        Set<Integer> quotients = quotientsOf(n);
        Set<Integer> struck = struckBy(strikesAndSpares);
        for (int group = 0; group <= 999999; group++) {
            int number = group % 100000;
            boolean succeeds = switch (group / 100000) {
                case 1 -> number >= 1;
                case 2, 3 -> number == 0 && canCome;
                case 4 -> true;
                case 5 -> number == 0;
                case 6 -> left >= number;
                case 7 -> left <= number;
                case 8 -> quotients.contains(number);
                case 9 -> struck.contains(number);
                default -> false;
            };
            if (isWorthAsking(n, group)) {
                due("runScript(1, " + group + ") of " + n, succeeds ? NONE : 0, ask().runScript(1, group));
            }
        }
    }

    private static Set<Integer> struckBy(String strikesAndSpares) {
        Set<Integer> struck = new TreeSet<>();
        int prime = 1;
        for (char turn : strikesAndSpares.toCharArray()) {
            prime = primeAbove(prime);
            if (turn == 's') {
                struck.add(prime);
            }
        }
        return struck;
    }

    /** Counting what is left of a great bound takes long: there only some of these commands are tried. */
    private static boolean isWorthAsking(int n, int group) {
        boolean counts = group / 100000 >= 6 && group / 100000 <= 8;
        return n <= 100 || !counts || group % 97 == 0 || group % 100000 >= 10280 && group % 100000 <= 10290;
    }

    /** Finds the seed whose first turn has this r. */
    private static long seedOf(int r) {
        long factor = 6364136223846793005L;
        long inverse = factor;
        for (int i = 0; i < 6; i++) {
            inverse *= 2 - factor * inverse;
        }
        return (((long) r << 33) - 1442695040888963407L) * inverse;
    }

    @Sentence("29: By r % 8: 0: bound(1 + r / 8 % 3000). 1: again(). 2 and 3: spare(). Otherwise: strike().")
    void everyKindOfTurn() {
        state(100, "s.");
        int[] left = {0, 100, 50, 50, 40, 40, 40, 40};
        for (int high : new int[] {0, 1, 2, 3000, 44738, 89477, 89478}) {
            for (int n = 1; n <= 3000; n++) {
                long upper = 3000L * high + n - 1;
                for (int kind = 0; kind < 8 && 8 * upper + kind <= Integer.MAX_VALUE; kind++) {
                    int r = (int) (8 * upper + kind);
                    due("simulate(" + seedOf(r) + ", 1)", kind == 0 ? n : left[kind], ask().simulate(seedOf(r), 1));
                }
            }
        }
    }
}
