import java.util.function.LongSupplier;

/**
 * Every promise of the document by itself: ordinary calls, the edges that it names, and wrong arguments.
 * No object is asked more than 512 times: what it answers then is free.
 */
public final class PromiseTests {
    private static final Class<IllegalArgumentException> ARGUMENT = IllegalArgumentException.class;
    private static final Class<IllegalStateException> STATE = IllegalStateException.class;
    private static final Class<IndexOutOfBoundsException> INDEX = IndexOutOfBoundsException.class;
    private static final int LOWEST_INT = Integer.MIN_VALUE;
    private static final int HIGHEST_INT = Integer.MAX_VALUE;

    private final Check check = new Check("PromiseTests");
    private StruckCounts x = new StruckCounts();

    public static void main(String[] args) {
        PromiseTests tests = new PromiseTests();
        tests.newObject();
        tests.text();
        tests.loading();
        tests.whatThereIs();
        tests.actions();
        tests.undoing();
        tests.wouldStriking();
        tests.primes();
        tests.scripts();
        tests.simulations();
        tests.slots();
        tests.exceptionsChangeNothing();
        tests.check.end();
    }

    private void begin(String promise) {
        check.begin(promise);
        x = new StruckCounts();
    }

    private void begin(String promise, int bound) {
        begin(promise);
        x.bound(bound);
    }

    private void renew(int bound) {
        x = new StruckCounts();
        x.bound(bound);
    }

    private void write(String text) {
        x.clearText();
        for (char c : text.toCharArray()) {
            x.append(c);
        }
    }

    private void outOfRange(String call, LongSupplier got) {
        check.fails(call, ARGUMENT, got);
    }

    /** What tells a state: the first quotients, and the primes that came. */
    private static String seen(StruckCounts x) {
        StringBuilder all = new StringBuilder();
        for (int what = 0; what <= 6; what++) {
            all.append(x.about(what)).append(' ');
        }
        for (int q = 0; q < Math.min(3, x.about(1)); q++) {
            all.append(x.quotient(q)).append(':').append(x.left(q)).append(':').append(x.sumLeft(q));
            for (int rest = 0; rest <= 3; rest++) {
                all.append(':').append(x.restLeft(q, rest));
            }
            all.append(':').append(x.wouldStrike(q)).append(' ');
        }
        for (int k = 0, prime = -1; prime != 0 && k <= 40; k++) {
            prime = x.came(k);
            all.append(prime).append(' ');
        }
        return all.append(x.errorPosition()).toString();
    }

    private void newObject() {
        begin("1 a new object");
        check.is("about(0)", 100, () -> x.about(0));
        check.is("about(1)", 19, () -> x.about(1));
        check.is("about(2)", 0, () -> x.about(2));
        check.is("about(3)", 0, () -> x.about(3));
        check.is("about(4)", 100, () -> x.about(4));
        check.is("about(5)", 2, () -> x.about(5));
        check.is("about(6)", -1, () -> x.about(6));
        check.is("errorPosition()", 0, () -> x.errorPosition());
        check.is("clearText()", 0, () -> x.clearText());
        check.is("came(0)", 0, () -> x.came(0));
        check.fails("undo()", STATE, () -> x.undo());
        check.fails("restore(0)", STATE, () -> x.restore(0));
        check.fails("restore(1)", STATE, () -> x.restore(1));
        check.fails("load()", STATE, () -> x.load());
        check.is("NONE", -1, () -> StruckCounts.NONE);
    }

    private void text() {
        begin("2 append");
        check.is("append(0)", 1, () -> x.append(0));
        check.is("append(255)", 2, () -> x.append(255));
        outOfRange("append(-1)", () -> x.append(-1));
        outOfRange("append(256)", () -> x.append(256));
        outOfRange("append(lowest)", () -> x.append(LOWEST_INT));
        outOfRange("append(highest)", () -> x.append(HIGHEST_INT));
        for (int length = 3; length <= 60; length++) {
            check.is("append(97)", length, () -> x.append(97));
        }
        check.fails("append(97) to 60", STATE, () -> x.append(97));
        outOfRange("append(256) to 60", () -> x.append(256));
        check.begin("3 clearText");
        check.is("clearText()", 60, () -> x.clearText());
        check.is("clearText() again", 0, () -> x.clearText());
        check.is("append(97)", 1, () -> x.append(97));
        check.begin("4 errorPosition");
        tables();
        faults();
    }

    private void fault(String text, int want) {
        x = new StruckCounts();
        write(text);
        check.is("errorPosition() of " + text, want, () -> x.errorPosition());
        if (want == StruckCounts.NONE) {
            check.compare("load() of " + text, "fine", Check.answerOf(() -> x.load()).startsWith("throws") ? "not" : "fine");
        } else {
            check.fails("load() of " + text, STATE, () -> x.load());
        }
    }

    private void tables() {
        for (String table : new String[] {
            "strike", "spare", "again", "bound1", "bound9", "bound99999", "bound10000", "bound100", "strike2", "strike9",
            "spare2", "spare9", "again,again", "bound5,strike,spare3,again,bound7", "strike,strike2,strike",
            "again,again,again,again,again,again,again,again,again,strike", "spare,bound20", "bound90909"
        }) {
            fault(table, StruckCounts.NONE);
        }
    }

    private void faults() {
        fault("", 0);
        fault(",", 0);
        fault("b", 1);
        fault("s", 1);
        fault("st", 2);
        fault("sp", 2);
        fault("sa", 1);
        fault("Strike", 0);
        fault("x", 0);
        fault("5", 0);
        fault(" strike", 0);
        fault("spike", 2);
        fault("stare", 2);
        fault("strikes", 6);
        fault("strike ", 6);
        fault("strike0", 6);
        fault("strike1", 6);
        fault("strike10", 6);
        fault("strike22", 7);
        fault("strike2,", 8);
        fault("strike2,,", 8);
        fault("strike,5", 7);
        fault("spare0", 5);
        fault("spare1", 5);
        fault("spare99", 6);
        fault("bound", 5);
        fault("bound,", 5);
        fault("bound0", 5);
        fault("bound01", 5);
        fault("bound99999", -1);
        fault("bound100000", 10);
        fault("bound999990", 10);
        fault("bound5a", 6);
        fault("bounds", 5);
        fault("again0", 5);
        fault("again1", 5);
        fault("again2", 5);
        fault("again,agai", 10);
        fault("again,agaim", 10);
        fault("again;again", 5);
        fault("again,bound", 11);
        fault("again\u0000", 5);
        fault("again\u00ff", 5);
        fault("again,again,again,again,again,again,again,again,again,again,", 60);
        fault("again,again,again,again,again,again,again,again,again,strik", 59);
        fault("again,again,again,again,again,again,again,again,again,agains", 59);
    }

    private void loading() {
        begin("5 load");
        write("bound7,strike9");
        check.is("load()", 5, () -> x.load());
        check.is("about(0)", 7, () -> x.about(0));
        check.is("about(2)", 4, () -> x.about(2));
        check.is("load() once more", 5, () -> x.load());
        check.is("clearText()", 14, () -> x.clearText());

        begin("5 load from the beginning");
        x.bound(50);
        x.strike();
        x.save(0);
        x.save(1);
        write("spare");
        check.is("load()", 0, () -> x.load());
        check.is("about(0)", 100, () -> x.about(0));
        check.is("about(2)", 0, () -> x.about(2));
        check.is("about(3)", 1, () -> x.about(3));
        check.is("about(4)", 100, () -> x.about(4));
        check.fails("undo()", STATE, () -> x.undo());
        check.fails("restore(0)", STATE, () -> x.restore(0));
        check.fails("restore(1)", STATE, () -> x.restore(1));

        begin("5 load is no action");
        write("bound99999,strike9,spare9,strike9,spare9,strike9");
        check.is("load()", 5, () -> x.load());
        check.is("about(2)", 22, () -> x.about(2));
        check.is("about(3)", 18, () -> x.about(3));
        check.fails("undo()", STATE, () -> x.undo());
        check.is("strike() after all came", 0, () -> x.about(5) + 1);

        begin("5 load with again");
        write("bound30,strike3,again,spare2,strike");
        check.is("load()", 0, () -> x.load());
        check.is("came(0)", -2, () -> x.came(0));
        check.is("came(1)", -3, () -> x.came(1));
        check.is("came(2)", 5, () -> x.came(2));
        check.is("came(3)", 0, () -> x.came(3));
        check.is("about(4)", 24, () -> x.about(4));
        write("bound1,strike,spare,spare3");
        check.is("load() with nothing to come", 5, () -> x.load());
    }

    private void whatThereIs() {
        begin("6 about");
        x.strike();
        x.spare();
        x.spare();
        check.is("about(0)", 100, () -> x.about(0));
        check.is("about(1)", 19, () -> x.about(1));
        check.is("about(2)", 1, () -> x.about(2));
        check.is("about(3)", 2, () -> x.about(3));
        check.is("about(4)", 50, () -> x.about(4));
        check.is("about(5)", 7, () -> x.about(5));
        check.is("about(6)", 5, () -> x.about(6));
        outOfRange("about(-1)", () -> x.about(-1));
        outOfRange("about(7)", () -> x.about(7));
        x.bound(99999);
        x.strikeTo(167);
        check.is("about(5) after 39", 173, () -> x.about(5));
        x.spare();
        check.is("about(5) after 40", -1, () -> x.about(5));
        check.is("about(6) after 40", 173, () -> x.about(6));
        x.bound(3);
        x.spare();
        check.is("about(5) at the bound", 3, () -> x.about(5));
        x.spare();
        check.is("about(5) above the bound", -1, () -> x.about(5));
        quotients();
        leftNumbers();
        cameOnes();
    }

    private void quotients() {
        begin("7 quotient", 10);
        int[] all = {10, 5, 3, 2, 1};
        for (int q = 0; q < all.length; q++) {
            int place = q;
            check.is("quotient(" + q + ")", all[q], () -> x.quotient(place));
            check.is("quotientOf(" + all[q] + ")", place, () -> x.quotientOf(all[place]));
        }
        check.fails("quotient(5)", INDEX, () -> x.quotient(5));
        check.fails("quotient(-1)", INDEX, () -> x.quotient(-1));
        check.fails("quotient(lowest)", INDEX, () -> x.quotient(LOWEST_INT));
        check.fails("quotient(highest)", INDEX, () -> x.quotient(HIGHEST_INT));
        check.begin("8 quotientOf");
        for (int v : new int[] {LOWEST_INT, -10, -1, 0, 4, 6, 9, 11, 100000, HIGHEST_INT}) {
            check.is("quotientOf(" + v + ")", -1, () -> x.quotientOf(v));
        }
        for (int bound : new int[] {1, 2, 3, 4, 5, 6, 8, 9, 11, 12, 15, 16, 20, 99855, 99856, 99857, 99999}) {
            everyQuotient(bound);
        }
    }

    private void everyQuotient(int bound) {
        int place = -1;
        int last = 0;
        for (int k = 1; k <= bound; k++) {
            if (bound / k != last) {
                last = bound / k;
                place++;
                if (place % 100 == 0) {
                    renew(bound);
                }
                int want = place;
                int value = last;
                check.is("quotient(" + want + ") of " + bound, value, () -> x.quotient(want));
                check.is("quotientOf(" + value + ") of " + bound, want, () -> x.quotientOf(value));
            }
        }
        check.is("about(1) of " + bound, place + 1, () -> x.about(1));
    }

    private void leftNumbers() {
        begin("9 left", 20);
        x.strike();
        x.spare();
        x.strike();
        // 1 3 7 9 11 13 17 19 are left; the quotients are 20 10 6 5 4 3 2 1.
        int[] counts = {8, 4, 2, 2, 2, 2, 1, 1};
        long[] sums = {80, 20, 4, 4, 4, 4, 1, 1};
        int[][] rests = {{0, 4, 0, 4}, {0, 2, 0, 2}, {0, 1, 0, 1}, {0, 1, 0, 1}, {0, 1, 0, 1}, {0, 1, 0, 1},
            {0, 1, 0, 0}, {0, 1, 0, 0}};
        for (int q = 0; q < counts.length; q++) {
            int place = q;
            check.begin("9 left");
            check.is("left(" + q + ")", counts[q], () -> x.left(place));
            check.begin("10 sumLeft");
            check.is("sumLeft(" + q + ")", sums[q], () -> x.sumLeft(place));
            check.begin("11 restLeft");
            for (int rest = 0; rest <= 3; rest++) {
                int mod = rest;
                check.is("restLeft(" + q + ", " + rest + ")", rests[q][rest], () -> x.restLeft(place, mod));
            }
        }
        for (int q : new int[] {LOWEST_INT, -1, 8, HIGHEST_INT}) {
            check.fails("left(" + q + ")", INDEX, () -> x.left(q));
            check.fails("sumLeft(" + q + ")", INDEX, () -> x.sumLeft(q));
            check.fails("restLeft(" + q + ", 0)", INDEX, () -> x.restLeft(q, 0));
            check.fails("restLeft(" + q + ", 4)", INDEX, () -> x.restLeft(q, 4));
        }
        outOfRange("restLeft(0, 4)", () -> x.restLeft(0, 4));
        outOfRange("restLeft(7, -1)", () -> x.restLeft(7, -1));
        x.bound(99999);
        check.is("sumLeft(0) of 99999", 4999950000L, () -> x.sumLeft(0));
        check.is("restLeft(0, 0) of 99999", 24999, () -> x.restLeft(0, 0));
        check.is("restLeft(0, 3) of 99999", 25000, () -> x.restLeft(0, 3));
        x.spare();
        x.strike();
        check.is("restLeft(0, 0) without multiples of 12", 16666, () -> x.restLeft(0, 0));
        check.is("restLeft(0, 1) without multiples of 3", 16667, () -> x.restLeft(0, 1));
    }

    private void cameOnes() {
        begin("12 came");
        x.strike();
        x.spare();
        check.is("came(0)", 2, () -> x.came(0));
        check.is("came(1)", -3, () -> x.came(1));
        check.is("came(2)", 0, () -> x.came(2));
        check.is("came(highest)", 0, () -> x.came(HIGHEST_INT));
        outOfRange("came(-1)", () -> x.came(-1));
        outOfRange("came(lowest)", () -> x.came(LOWEST_INT));
        x.bound(99999);
        x.strikeTo(150);
        while (x.about(5) != StruckCounts.NONE) {
            x.spare();
        }
        check.is("came(34)", 149, () -> x.came(34));
        check.is("came(35)", -151, () -> x.came(35));
        check.is("came(39)", -173, () -> x.came(39));
        check.is("came(40)", 0, () -> x.came(40));
    }

    private void actions() {
        begin("13 bound");
        x.strike();
        check.is("bound(7)", 100, () -> x.bound(7));
        check.is("came(0)", 0, () -> x.came(0));
        check.is("about(4)", 7, () -> x.about(4));
        check.is("bound(99999)", 7, () -> x.bound(99999));
        check.is("bound(1)", 99999, () -> x.bound(1));
        for (int n : new int[] {LOWEST_INT, -1, 0, 100000, HIGHEST_INT}) {
            outOfRange("bound(" + n + ")", () -> x.bound(n));
        }
        striking();
        sparing();
        strikingTo();
        beginningAgain();
    }

    private void striking() {
        begin("14 strike", 30);
        check.is("strike() 2", 15, () -> x.strike());
        check.is("strike() 3", 5, () -> x.strike());
        check.is("strike() 5", 2, () -> x.strike());
        check.is("strike() 7", 1, () -> x.strike());
        x.strikeTo(28);
        check.is("strike() 29", 1, () -> x.strike());
        check.fails("strike() 31", STATE, () -> x.strike());
        x.bound(1);
        check.fails("strike() above 1", STATE, () -> x.strike());
        x.bound(2);
        check.is("strike() at the bound", 1, () -> x.strike());
        x.bound(99999);
        x.strikeTo(99999);
        check.fails("strike() after 40", STATE, () -> x.strike());
    }

    private void sparing() {
        begin("15 spare", 7);
        int[] primes = {2, 3, 5, 7};
        for (int prime : primes) {
            check.is("spare()", prime, () -> x.spare());
        }
        check.is("about(4)", 7, () -> x.about(4));
        check.fails("spare() above the bound", STATE, () -> x.spare());
        x.bound(99999);
        for (int k = 0; k < 40; k++) {
            x.spare();
        }
        check.fails("spare() after 40", STATE, () -> x.spare());
        check.is("about(3)", 40, () -> x.about(3));
    }

    private void strikingTo() {
        begin("16 strikeTo");
        check.is("strikeTo(0)", 0, () -> x.strikeTo(0));
        check.is("strikeTo(1)", 0, () -> x.strikeTo(1));
        check.is("strikeTo(2)", 1, () -> x.strikeTo(2));
        check.is("strikeTo(2) again", 0, () -> x.strikeTo(2));
        check.is("strikeTo(12)", 4, () -> x.strikeTo(12));
        check.is("about(2)", 5, () -> x.about(2));
        check.is("strikeTo(99999)", 20, () -> x.strikeTo(99999));
        check.is("about(6)", 97, () -> x.about(6));
        check.is("about(4)", 1, () -> x.about(4));
        for (int most : new int[] {LOWEST_INT, -1, 100000, HIGHEST_INT}) {
            outOfRange("strikeTo(" + most + ")", () -> x.strikeTo(most));
        }
        x.bound(99999);
        x.spare();
        check.is("strikeTo(99999) of 99999", 39, () -> x.strikeTo(99999));
        check.is("about(6)", 173, () -> x.about(6));
        check.is("came(0)", -2, () -> x.came(0));
        x.bound(13);
        check.is("strikeTo(13) of 13", 6, () -> x.strikeTo(13));
    }

    private void beginningAgain() {
        begin("17 again");
        check.is("again() at first", 0, () -> x.again());
        x.strike();
        x.spare();
        x.strike();
        check.is("again()", 3, () -> x.again());
        check.is("about(0)", 100, () -> x.about(0));
        check.is("about(4)", 100, () -> x.about(4));
        check.is("about(5)", 2, () -> x.about(5));
        check.is("about(6)", -1, () -> x.about(6));
    }

    private static StruckCounts afterActions(int actions) {
        StruckCounts other = new StruckCounts();
        Runnable[] all = {other::strike, other::spare, () -> other.strikeTo(20), other::again, () -> other.bound(60)};
        for (int i = 0; i < actions; i++) {
            all[i].run();
        }
        return other;
    }

    private void undoing() {
        begin("18 undo");
        for (int left = 4; left >= 0; left--) {
            x = afterActions(5);
            for (int undone = 4; undone >= left; undone--) {
                int remembered = undone;
                check.is("undo()", remembered, () -> x.undo());
            }
            check.compare("what is seen with " + left + " remembered", seen(afterActions(left)), seen(x));
        }
        check.fails("undo() with none", STATE, () -> x.undo());

        begin("18 undo of what changes nothing");
        x.strikeTo(0);
        x.again();
        x.bound(100);
        check.is("undo() the bound", 2, () -> x.undo());
        check.is("undo() again", 1, () -> x.undo());
        check.is("undo() strikeTo", 0, () -> x.undo());

        begin("18 undo of 14 at most");
        for (int n = 1; n <= 20; n++) {
            x.bound(n);
        }
        for (int left = 13; left >= 0; left--) {
            check.is("undo()", left, () -> x.undo());
            int bound = left + 6;
            check.is("about(0)", bound, () -> x.about(0));
        }
        check.fails("undo() of the 15th", STATE, () -> x.undo());
        x.strike();
        check.is("undo() after all that", 0, () -> x.undo());

        begin("18 undo leaves text and slots");
        x.strike();
        x.append('a');
        x.save(1);
        x.undo();
        check.is("clearText()", 1, () -> x.clearText());
        check.is("restore(1)", 100, () -> x.restore(1));
        check.is("about(2)", 1, () -> x.about(2));
    }

    private void wouldStriking() {
        begin("19 wouldStrike", 30);
        x.spare();
        // 3 would strike 10 of 30, 5 of 15, 3 of 10, 2 of 7 and 6, 1 of 5, 4 and 3, none of 2 and 1.
        int[] hits = {10, 5, 3, 2, 2, 1, 1, 1, 0, 0};
        int[] values = {30, 15, 10, 7, 6, 5, 4, 3, 2, 1};
        for (int i = 0; i < hits.length; i++) {
            int value = values[i];
            check.is("wouldStrike of " + value, hits[i], () -> x.wouldStrike(x.quotientOf(value)));
        }
        check.is("about(2)", 0, () -> x.about(2));
        check.fails("wouldStrike(-1)", INDEX, () -> x.wouldStrike(-1));
        check.fails("wouldStrike(10)", INDEX, () -> x.wouldStrike(10));
        x.strike();
        check.is("wouldStrike(0) of 5", 4, () -> x.wouldStrike(0));
        check.is("undo() knows of no more", 1, () -> {
            x.undo();
            return x.about(3);
        });
        x.bound(2);
        x.strike();
        check.is("wouldStrike(0) above the bound", 0, () -> x.wouldStrike(0));
        check.fails("wouldStrike(2) above the bound", INDEX, () -> x.wouldStrike(2));
        x.bound(99999);
        x.strikeTo(400);
        check.is("wouldStrike(0) after 40", 0, () -> x.wouldStrike(0));
    }

    private void primes() {
        begin("20 primes", 1);
        int[] counts = {0, 0, 1, 2, 2, 3, 3, 4, 4, 4, 4, 5, 5, 6};
        for (int i = 0; i < counts.length; i++) {
            int top = i;
            check.is("primes(" + i + ")", counts[i], () -> x.primes(top));
        }
        check.is("primes(127)", 31, () -> x.primes(127));
        check.is("primes(128)", 31, () -> x.primes(128));
        check.is("primes(131)", 32, () -> x.primes(131));
        check.is("primes(99990)", 9591, () -> x.primes(99990));
        check.is("primes(99991)", 9592, () -> x.primes(99991));
        check.is("primes(99999)", 9592, () -> x.primes(99999));
        outOfRange("primes(-1)", () -> x.primes(-1));
        outOfRange("primes(100000)", () -> x.primes(100000));
        check.begin("21 sumOf");
        long[] sums = {0, 0, 2, 5, 5, 10, 10, 17, 17, 17, 17, 28};
        for (int i = 0; i < sums.length; i++) {
            int top = i;
            check.is("sumOf(" + i + ")", sums[i], () -> x.sumOf(top));
        }
        check.is("sumOf(1000)", 76127, () -> x.sumOf(1000));
        check.is("sumOf(99999)", 454396537L, () -> x.sumOf(99999));
        outOfRange("sumOf(-1)", () -> x.sumOf(-1));
        outOfRange("sumOf(100000)", () -> x.sumOf(100000));
        spansAndRests();
        ranksAndFactors();
        leastFactors();
        pairs();
    }

    private void spansAndRests() {
        check.begin("22 inSpan");
        check.is("inSpan(0, 0)", 0, () -> x.inSpan(0, 0));
        check.is("inSpan(2, 2)", 1, () -> x.inSpan(2, 2));
        check.is("inSpan(3, 7)", 3, () -> x.inSpan(3, 7));
        check.is("inSpan(8, 10)", 0, () -> x.inSpan(8, 10));
        check.is("inSpan(0, 99999)", 9592, () -> x.inSpan(0, 99999));
        check.is("inSpan(99999, 99999)", 0, () -> x.inSpan(99999, 99999));
        outOfRange("inSpan(-1, 5)", () -> x.inSpan(-1, 5));
        outOfRange("inSpan(5, 4)", () -> x.inSpan(5, 4));
        outOfRange("inSpan(5, 100000)", () -> x.inSpan(5, 100000));
        outOfRange("inSpan(100000, 100000)", () -> x.inSpan(100000, 100000));
        check.begin("23 byRest");
        int[] ofThirty = {0, 4, 1, 5};
        for (int i = 0; i <= 3; i++) {
            int rest = i;
            check.is("byRest(30, " + i + ")", ofThirty[i], () -> x.byRest(30, rest));
            check.is("byRest(0, " + i + ")", 0, () -> x.byRest(0, rest));
        }
        check.is("byRest(1, 2)", 0, () -> x.byRest(1, 2));
        check.is("byRest(2, 2)", 1, () -> x.byRest(2, 2));
        check.is("byRest(99999, 0)", 0, () -> x.byRest(99999, 0));
        check.is("byRest(99999, 1)", 4783, () -> x.byRest(99999, 1));
        check.is("byRest(99999, 3)", 4808, () -> x.byRest(99999, 3));
        outOfRange("byRest(-1, 0)", () -> x.byRest(-1, 0));
        outOfRange("byRest(100000, 0)", () -> x.byRest(100000, 0));
        outOfRange("byRest(5, -1)", () -> x.byRest(5, -1));
        outOfRange("byRest(5, 4)", () -> x.byRest(5, 4));
    }

    private void ranksAndFactors() {
        check.begin("24 prime");
        int[] first = {2, 3, 5, 7, 11, 13, 17, 19, 23, 29, 31, 37};
        for (int i = 0; i < first.length; i++) {
            int rank = i + 1;
            check.is("prime(" + rank + ")", first[i], () -> x.prime(rank));
        }
        for (int i = 1; i <= 9592; i++) {
            int rank = i;
            if (i % 200 == 0) {
                renew(1);
            }
            check.is("primes(prime(" + i + "))", i, () -> x.primes(x.prime(rank)));
        }
        check.is("prime(9592)", 99991, () -> x.prime(9592));
        outOfRange("prime(0)", () -> x.prime(0));
        outOfRange("prime(-1)", () -> x.prime(-1));
        outOfRange("prime(9593)", () -> x.prime(9593));
        check.begin("25 leastFactor");
        int[] factors = {2, 3, 2, 5, 2, 7, 2, 3, 2, 11, 2, 13, 2, 3};
        for (int i = 0; i < factors.length; i++) {
            int number = i + 2;
            check.is("leastFactor(" + number + ")", factors[i], () -> x.leastFactor(number));
        }
        check.is("leastFactor(97969)", 313, () -> x.leastFactor(97969));
        check.is("leastFactor(99991)", 99991, () -> x.leastFactor(99991));
        check.is("leastFactor(99999)", 3, () -> x.leastFactor(99999));
        outOfRange("leastFactor(1)", () -> x.leastFactor(1));
        outOfRange("leastFactor(0)", () -> x.leastFactor(0));
        outOfRange("leastFactor(-7)", () -> x.leastFactor(-7));
        outOfRange("leastFactor(100000)", () -> x.leastFactor(100000));
    }

    private void leastFactors() {
        begin("26 withLeast");
        x.strike();
        String before = seen(x);
        check.is("withLeast(1, 2)", 0, () -> x.withLeast(1, 2));
        check.is("withLeast(2, 2)", 1, () -> x.withLeast(2, 2));
        check.is("withLeast(99999, 2)", 49999, () -> x.withLeast(99999, 2));
        check.is("withLeast(30, 3)", 5, () -> x.withLeast(30, 3));
        check.is("withLeast(30, 5)", 2, () -> x.withLeast(30, 5));
        check.is("withLeast(24, 5)", 1, () -> x.withLeast(24, 5));
        check.is("withLeast(30, 6)", 0, () -> x.withLeast(30, 6));
        check.is("withLeast(30, 29)", 1, () -> x.withLeast(30, 29));
        check.is("withLeast(28, 29)", 0, () -> x.withLeast(28, 29));
        check.is("withLeast(97968, 313)", 1, () -> x.withLeast(97968, 313));
        check.is("withLeast(97969, 313)", 2, () -> x.withLeast(97969, 313));
        check.is("withLeast(99999, 317)", 1, () -> x.withLeast(99999, 317));
        check.is("withLeast(99999, 331)", 1, () -> x.withLeast(99999, 331));
        check.is("withLeast(99999, 99991)", 1, () -> x.withLeast(99999, 99991));
        check.is("withLeast(99999, 99999)", 0, () -> x.withLeast(99999, 99999));
        outOfRange("withLeast(0, 2)", () -> x.withLeast(0, 2));
        outOfRange("withLeast(100000, 2)", () -> x.withLeast(100000, 2));
        outOfRange("withLeast(5, 1)", () -> x.withLeast(5, 1));
        outOfRange("withLeast(5, -2)", () -> x.withLeast(5, -2));
        outOfRange("withLeast(5, 100000)", () -> x.withLeast(5, 100000));
        check.compare("what is seen after withLeast", before, seen(x));
        for (int top : new int[] {1, 2, 30, 961, 99999}) {
            int all = 0;
            int last = x.primes(top);
            for (int rank = 1; rank <= last; rank++) {
                if (rank % 200 == 1) {
                    renew(1);
                }
                all += x.withLeast(top, x.prime(rank));
            }
            int whole = all;
            check.is("all withLeast of " + top, top - 1, () -> whole);
        }
    }

    private void pairs() {
        check.begin("27 twoFactors");
        int[] counts = {0, 0, 0, 0, 1, 1, 2, 2, 2, 3, 4, 4, 4, 4, 5, 6};
        for (int i = 0; i < counts.length; i++) {
            int top = i;
            check.is("twoFactors(" + i + ")", counts[i], () -> x.twoFactors(top));
        }
        check.is("twoFactors(24)", 8, () -> x.twoFactors(24));
        check.is("twoFactors(25)", 9, () -> x.twoFactors(25));
        check.is("twoFactors(97968), ahead of 313 * 313", 22921, () -> x.twoFactors(97968));
        check.is("twoFactors(97969)", 22922, () -> x.twoFactors(97969));
        check.is("twoFactors(99999)", 23378, () -> x.twoFactors(99999));
        outOfRange("twoFactors(-1)", () -> x.twoFactors(-1));
        outOfRange("twoFactors(100000)", () -> x.twoFactors(100000));
    }

    /** Runs a script when 2 struck and 3 was spared, so that 50 of 100 are left. */
    private void script(int n, long script, int want) {
        x = new StruckCounts();
        x.strike();
        x.spare();
        scriptNow(n, script, want);
    }

    private void scriptNow(int n, long script, int want) {
        String before = seen(x);
        check.is("runScript(" + n + ", " + script + ")", want, () -> x.runScript(n, script));
        check.compare("what is seen after runScript", before, seen(x));
    }

    private void scripts() {
        begin("28 runScript");
        script(1, 100001, -1);
        script(1, 199999, -1);
        script(1, 100000, 0);
        script(1, 200000, -1);
        script(1, 200001, 0);
        script(1, 210000, 0);
        script(1, 300000, -1);
        script(1, 300010, 0);
        script(1, 400000, -1);
        script(1, 499999, -1);
        script(1, 500000, -1);
        script(1, 500100, 0);
        script(1, 600050, -1);
        script(1, 600051, 0);
        script(1, 700050, -1);
        script(1, 700049, 0);
        script(1, 800050, -1);
        script(1, 800049, 0);
        script(1, 800000, 0);
        script(1, 900002, -1);
        script(1, 900003, 0);
        script(1, 900005, 0);
        script(1, 900000, 0);
        script(1, 0, 0);
        script(1, 99999, 0);
        script(3, 200000, 0);
        script(2, 200000900005L, -1);
        script(2, 300000900005L, 1);
        script(2, 500000900002L, 1);
        script(2, 500000600100L, -1);
        script(2, 400005700040L, -1);
        script(3, 100001200000500000L, 1);
        script(3, 100002200000200000L, 2);
        script(3, 100002300000900002L, 2);
        script(3, 100010800003700010L, -1);
        script(3, 999999999999999999L, 0);
        outOfRange("runScript(0, 0)", () -> x.runScript(0, 0));
        outOfRange("runScript(4, 0)", () -> x.runScript(4, 0));
        outOfRange("runScript(lowest, 0)", () -> x.runScript(LOWEST_INT, 0));
        outOfRange("runScript(highest, 0)", () -> x.runScript(HIGHEST_INT, 0));
        outOfRange("runScript(1, -1)", () -> x.runScript(1, -1));
        outOfRange("runScript(1, 1000000)", () -> x.runScript(1, 1000000));
        outOfRange("runScript(2, 1000000000000)", () -> x.runScript(2, 1000000000000L));
        outOfRange("runScript(3, 1000000000000000000)", () -> x.runScript(3, 1000000000000000000L));
        outOfRange("runScript(3, highest)", () -> x.runScript(3, Long.MAX_VALUE));
        outOfRange("runScript(3, lowest)", () -> x.runScript(3, Long.MIN_VALUE));
        check.is("undo() the spare", 1, () -> x.undo());
        check.is("undo() the strike", 0, () -> x.undo());
        long[][] after40 = {{200000, 0}, {300000, 0}, {900173, -1}, {900179, 0}};
        for (long[] one : after40) {
            renew(99999);
            x.strikeTo(400);
            scriptNow(1, one[0], (int) one[1]);
        }
    }

    private void strikeSpareStrike() {
        x = new StruckCounts();
        x.strike();
        x.spare();
        x.strike();
    }

    private void simulations() {
        begin("29 simulate");
        strikeSpareStrike();
        check.is("simulate(5, 30) of a run that is told", 2692, () -> x.simulate(5, 30));
        String before = seen(x);
        for (long seed : new long[] {0, 1, -1, 5, 99, Long.MIN_VALUE, Long.MAX_VALUE, 123456789012345L}) {
            strikeSpareStrike();
            for (int turns : new int[] {1, 2, 3, 7, 20, 59, 60}) {
                check.is("simulate(" + seed + ", " + turns + ")", playedOut(seed, turns), () -> x.simulate(seed, turns));
                check.compare("what is seen after simulate", before, seen(x));
            }
        }
        check.is("undo()", 2, () -> x.undo());
        outOfRange("simulate(0, 0)", () -> x.simulate(0, 0));
        outOfRange("simulate(0, -1)", () -> x.simulate(0, -1));
        outOfRange("simulate(0, 61)", () -> x.simulate(0, 61));
        outOfRange("simulate(0, lowest)", () -> x.simulate(0, LOWEST_INT));
        outOfRange("simulate(0, highest)", () -> x.simulate(0, HIGHEST_INT));
    }

    /** Makes the turns by the calls of the face, on another object in the same state. */
    private static long playedOut(long seed, int turns) {
        StruckCounts other = new StruckCounts();
        other.strike();
        other.spare();
        other.strike();
        long number = seed;
        for (int i = 0; i < turns; i++) {
            number = number * 6364136223846793005L + 1442695040888963407L;
            int r = (int) (number >>> 33);
            if (r % 8 == 0) {
                other.bound(1 + r / 8 % 3000);
            } else if (r % 8 == 1) {
                other.again();
            } else if (other.about(5) != StruckCounts.NONE) {
                if (r % 8 < 4) {
                    other.spare();
                } else {
                    other.strike();
                }
            }
        }
        return other.about(4);
    }

    private void slots() {
        begin("30 save", 60);
        x.strike();
        x.spare();
        String saved = seen(x);
        check.is("save(0)", 60, () -> x.save(0));
        check.is("undo() after save", 2, () -> x.undo());
        check.is("about(3)", 0, () -> x.about(3));
        x.bound(9);
        String other = seen(x);
        check.is("save(1)", 9, () -> x.save(1));
        for (int slot : new int[] {LOWEST_INT, -1, 2, HIGHEST_INT}) {
            check.fails("save(" + slot + ")", INDEX, () -> x.save(slot));
            check.fails("restore(" + slot + ")", INDEX, () -> x.restore(slot));
        }
        check.begin("31 restore");
        x.bound(4);
        check.is("restore(0)", 60, () -> x.restore(0));
        check.compare("what is seen after restore(0)", saved, seen(x));
        check.fails("undo() after restore", STATE, () -> x.undo());
        check.is("restore(1)", 9, () -> x.restore(1));
        check.compare("what is seen after restore(1)", other, seen(x));
        x.strike();
        check.is("undo() after a strike", 0, () -> x.undo());
        check.is("restore(0) a second time", 60, () -> x.restore(0));
        check.compare("what is seen after restore(0) a second time", saved, seen(x));
        x.strike();
        check.is("save(0) over", 60, () -> x.save(0));
        x.again();
        x.restore(0);
        check.is("came(2)", 5, () -> x.came(2));
        x.append('a');
        x.restore(1);
        check.is("clearText() after restore", 1, () -> x.clearText());
        write("again");
        x.load();
        check.fails("restore(0) after load", STATE, () -> x.restore(0));
        check.fails("restore(1) after load", STATE, () -> x.restore(1));
        x.save(1);
        check.fails("restore(0) after save(1)", STATE, () -> x.restore(0));
        check.is("restore(1) after save(1)", 100, () -> x.restore(1));
    }

    private void smallWithMuchToLose() {
        x = new StruckCounts();
        x.bound(3);
        x.strike();
        x.spare();
        x.save(0);
        x.append('x');
    }

    private void unchanged(Class<? extends RuntimeException> want, String call, LongSupplier got) {
        smallWithMuchToLose();
        String before = seen(x);
        check.fails(call, want, got);
        check.compare("what is seen after " + call, before, seen(x));
        check.is("undo() the spare", 2, () -> x.undo());
        check.is("undo() the strike", 1, () -> x.undo());
        check.is("undo() the bound", 0, () -> x.undo());
        check.is("clearText()", 1, () -> x.clearText());
        check.fails("restore(1)", STATE, () -> x.restore(1));
        check.is("restore(0)", 3, () -> x.restore(0));
        check.is("about(3)", 1, () -> x.about(3));
    }

    private void exceptionsChangeNothing() {
        begin("a call that throws changes nothing");
        unchanged(STATE, "strike()", () -> x.strike());
        unchanged(STATE, "spare()", () -> x.spare());
        unchanged(STATE, "load()", () -> x.load());
        unchanged(STATE, "restore(1)", () -> x.restore(1));
        unchanged(INDEX, "restore(2)", () -> x.restore(2));
        unchanged(INDEX, "save(2)", () -> x.save(2));
        unchanged(ARGUMENT, "bound(0)", () -> x.bound(0));
        unchanged(ARGUMENT, "strikeTo(-1)", () -> x.strikeTo(-1));
        unchanged(ARGUMENT, "append(256)", () -> x.append(256));
        unchanged(ARGUMENT, "runScript(4, 0)", () -> x.runScript(4, 0));
        unchanged(ARGUMENT, "simulate(0, 0)", () -> x.simulate(0, 0));
    }
}
