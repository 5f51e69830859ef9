import java.util.Random;
import java.util.function.LongSupplier;

/** Long mixed runs of calls, the same each time, on the class and on the model beside it. */
public final class ModelTests {
    private static final int RUNS = 400;
    private static final int CALLS = 512;
    private static final int[] EDGES = {
        Integer.MIN_VALUE, -100000, -2, -1, 0, 1, 2, 3, 4, 5, 6, 7, 8, 9, 13, 14, 15, 39, 40, 41, 59, 60, 61, 99, 100,
        172, 173, 174, 255, 256, 313, 316, 317, 630, 631, 632, 9591, 9592, 9593, 99990, 99991, 99992, 99998,
        99999, 100000, 100001, Integer.MAX_VALUE
    };
    private static final String[] PIECES = {
        "bound", "strike", "spare", "again", "bound1", "bound99999", "bound100000", "bound0", "bound720",
        "strike2", "strike9", "strike1", "strike10", "spare3", "spare0", "again1", ",", ",,", "s", "st", "sp", "boun",
        "strik", "aga", "bound12,", "strike,", "spare,", "again,", "strike5,", " ", "S", "0", "9", "\u00e9", "\u0000"
    };

    private final Check check;
    private final Random random;
    private final StruckCounts ours = new StruckCounts();
    private final Model due = new Model();
    private int calls = 0;

    private ModelTests(Check check, long seed) {
        this.check = check;
        this.random = new Random(seed);
    }

    public static void main(String[] args) {
        Check check = new Check("ModelTests");
        for (int run = 0; run < RUNS && check.wrong() == 0; run++) {
            check.begin("run " + run);
            new ModelTests(check, run).makeCalls(run % 4);
        }
        check.end();
    }

    private void makeCalls(int leaning) {
        while (calls < CALLS && check.wrong() == 0) {
            makeCall(leaning);
        }
    }

    /** Some kinds make several calls; what an object answers to one call too many is free. */
    private void same(String call, LongSupplier want, LongSupplier got) {
        if (calls == CALLS) {
            return;
        }
        calls++;
        check.compare(call, Check.answerOf(want), Check.answerOf(got));
    }

    private int oneOf(int... values) {
        return values[random.nextInt(values.length)];
    }

    /** Mostly in range, at times at an edge or far outside. */
    private int near(int low, int high) {
        int kind = random.nextInt(12);
        if (kind == 0) {
            return EDGES[random.nextInt(EDGES.length)];
        }
        if (kind == 1) {
            return oneOf(low - 1, low, high, high + 1);
        }
        if (kind < 6) {
            return low + random.nextInt(Math.min(high - low + 1, 50));
        }
        return low + random.nextInt(high - low + 1);
    }

    private int someQuotient() {
        return near(0, due.about(1) - 1);
    }

    private int someBound() {
        return random.nextInt(3) == 0 ? near(1, 99999) : random.nextInt(2) == 0 ? near(1, 3000) : near(1, 60);
    }

    private void makeCall(int leaning) {
        int kind = random.nextInt(10);
        if (leaning == 0 ? kind < 5 : kind < 2) {
            act();
        } else if (leaning == 1 ? kind < 6 : kind < 3) {
            write();
        } else if (leaning == 2 ? kind < 7 : kind < 5) {
            askPrimes();
        } else if (leaning == 3 && kind < 8) {
            rehearse();
        } else {
            ask();
        }
    }

    private void act() {
        int kind = random.nextInt(16);
        if (kind < 5) {
            same("strike()", due::strike, ours::strike);
        } else if (kind < 8) {
            same("spare()", due::spare, ours::spare);
        } else if (kind < 10) {
            same("undo()", due::undo, ours::undo);
        } else if (kind < 12) {
            int most = random.nextBoolean() ? near(0, 200) : near(0, 99999);
            same("strikeTo(" + most + ")", () -> due.strikeTo(most), () -> ours.strikeTo(most));
        } else if (kind == 12) {
            int n = someBound();
            same("bound(" + n + ")", () -> due.bound(n), () -> ours.bound(n));
        } else if (kind == 13) {
            same("again()", due::again, ours::again);
        } else {
            int slot = oneOf(0, 1, 0, 1, 0, 1, -1, 2, near(0, 1));
            if (kind == 14) {
                same("save(" + slot + ")", () -> due.save(slot), () -> ours.save(slot));
            } else {
                same("restore(" + slot + ")", () -> due.restore(slot), () -> ours.restore(slot));
            }
        }
    }

    private void write() {
        int kind = random.nextInt(12);
        if (kind == 0) {
            same("load()", due::load, ours::load);
        } else if (kind == 1) {
            same("clearText()", due::clearText, ours::clearText);
        } else if (kind == 2) {
            same("clearText()", due::clearText, ours::clearText);
            append("bound" + (1 + random.nextInt(2000)) + ",strike4,spare,strike" + oneOf(2, 5, 9));
            same("load()", due::load, ours::load);
        } else if (kind == 3) {
            int c = near(0, 255);
            same("append(" + c + ")", () -> due.append(c), () -> ours.append(c));
        } else if (kind < 7) {
            same("errorPosition()", due::errorPosition, ours::errorPosition);
        } else {
            append(PIECES[random.nextInt(PIECES.length)]);
        }
    }

    private void append(String piece) {
        for (char c : piece.toCharArray()) {
            same("append(" + (int) c + ")", () -> due.append(c), () -> ours.append(c));
        }
    }

    private void ask() {
        int q = someQuotient();
        switch (random.nextInt(8)) {
            case 0:
                int what = near(0, 6);
                same("about(" + what + ")", () -> due.about(what), () -> ours.about(what));
                break;
            case 1:
                same("quotient(" + q + ")", () -> due.quotient(q), () -> ours.quotient(q));
                break;
            case 2:
                int v = near(1, due.about(0));
                same("quotientOf(" + v + ")", () -> due.quotientOf(v), () -> ours.quotientOf(v));
                break;
            case 3:
                same("left(" + q + ")", () -> due.left(q), () -> ours.left(q));
                break;
            case 4:
                same("sumLeft(" + q + ")", () -> due.sumLeft(q), () -> ours.sumLeft(q));
                break;
            case 5:
                int rest = near(0, 3);
                same("restLeft(" + q + ", " + rest + ")", () -> due.restLeft(q, rest), () -> ours.restLeft(q, rest));
                break;
            case 6:
                int k = near(0, 39);
                same("came(" + k + ")", () -> due.came(k), () -> ours.came(k));
                break;
            default:
                same("wouldStrike(" + q + ")", () -> due.wouldStrike(q), () -> ours.wouldStrike(q));
                break;
        }
    }

    private void askPrimes() {
        int x = near(0, 99999);
        switch (random.nextInt(8)) {
            case 0:
                same("primes(" + x + ")", () -> due.primes(x), () -> ours.primes(x));
                break;
            case 1:
                same("sumOf(" + x + ")", () -> due.sumOf(x), () -> ours.sumOf(x));
                break;
            case 2:
                int high = x >= 0 && x < 99999 ? near(x, 99999) : near(0, 99999);
                same("inSpan(" + x + ", " + high + ")", () -> due.inSpan(x, high), () -> ours.inSpan(x, high));
                break;
            case 3:
                int rest = near(0, 3);
                same("byRest(" + x + ", " + rest + ")", () -> due.byRest(x, rest), () -> ours.byRest(x, rest));
                break;
            case 4:
                int k = near(1, 9592);
                same("prime(" + k + ")", () -> due.prime(k), () -> ours.prime(k));
                break;
            case 5:
                int y = near(2, 99999);
                same("leastFactor(" + y + ")", () -> due.leastFactor(y), () -> ours.leastFactor(y));
                break;
            case 6:
                int p = random.nextInt(3) == 0 ? near(2, 99999) : due.prime(1 + random.nextInt(oneOf(10, 70, 9592)));
                same("withLeast(" + x + ", " + p + ")", () -> due.withLeast(x, p), () -> ours.withLeast(x, p));
                break;
            default:
                same("twoFactors(" + x + ")", () -> due.twoFactors(x), () -> ours.twoFactors(x));
                break;
        }
    }

    private void rehearse() {
        if (random.nextInt(3) == 0) {
            long seed = random.nextInt(4) == 0 ? oneOf(EDGES) : random.nextLong();
            int m = near(1, 60);
            same("simulate(" + seed + ", " + m + ")", () -> due.simulate(seed, m), () -> ours.simulate(seed, m));
            return;
        }
        int n = oneOf(1, 2, 3, 3, 3, 3, near(1, 3));
        long script = 0;
        for (int i = 0; i < Math.max(1, Math.min(3, n)); i++) {
            script = script * 1000000 + someCommand();
        }
        long whole = random.nextInt(20) == 0 ? random.nextLong() : random.nextInt(20) == 0 ? script * 10 : script;
        same("runScript(" + n + ", " + whole + ")", () -> due.runScript(n, whole), () -> ours.runScript(n, whole));
    }

    private int someCommand() {
        int kind = random.nextInt(10);
        int left = due.about(4);
        switch (kind) {
            case 1:
                return 100000 + random.nextInt(oneOf(3, 200, 3000, 100000));
            case 2:
            case 3:
            case 5:
                return 100000 * kind + (random.nextInt(8) == 0 ? random.nextInt(100000) : 0);
            case 4:
                return 400000 + random.nextInt(oneOf(10, 200, 100000));
            case 6:
            case 7:
                return 100000 * kind + (random.nextBoolean() ? Math.max(0, left + oneOf(-1, 0, 1)) % 100000
                        : random.nextInt(100000));
            case 8:
                return 800000 + (random.nextBoolean() ? due.quotient(random.nextInt(due.about(1)))
                        : random.nextInt(due.about(0) + 2) % 100000);
            case 9:
                return 900000 + (random.nextInt(4) == 0 ? random.nextInt(200) : due.prime(1 + random.nextInt(12)));
            default:
                return random.nextInt(100000);
        }
    }
}
