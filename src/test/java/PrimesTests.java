/** The sentences of the promises 20 to 27 that name a boundary: primes, whatever the bound is, and whatever came. */
public final class PrimesTests extends Sentences {
    private static final long MIN = Integer.MIN_VALUE;
    private static final long MAX = Integer.MAX_VALUE;

    public static void main(String[] args) {
        new PrimesTests().runAll(args);
    }

    @Sentence("the interface: primes, whatever the bound is, and whatever came")
    void whateverTheBoundIsAndWhateverCame() {
        for (String before : new String[] {"bound(1)", "bound(99999)", "strikeTo(99999)", "save(0)"}) {
            run(before, "primes(99999) = 9592", "sumOf(99999) = 454396537", "inSpan(0, 99999) = 9592", "byRest(99999, 3) = 4808",
                    "prime(9592) = 99991", "leastFactor(97969) = 313", "withLeast(99999, 2) = 49999",
                    "twoFactors(99999) = 23378");
        }
    }

    @Sentence("the interface: this one and all following methods up to the save slots change nothing")
    void allUpToTheSaveSlotsChangeNothing() {
        // Run looks behind each of these rows by itself; here much is there that could be lost.
        for (String call : new String[] {
            "wouldStrike(0) = 1", "primes(100) = 25", "sumOf(5) = 10", "inSpan(2, 3) = 2", "byRest(7, 3) = 2", "prime(4) = 7",
            "leastFactor(35) = 5", "withLeast(30, 3) = 5", "withLeast(99999, 313) = 3", "twoFactors(10) = 4",
            "runScript(3, 100009200000400009) = NONE", "runScript(1, 500000) = NONE", "runScript(1, 200000) = NONE",
            "simulate(0, 60) = 1108", "simulate(3352642804572704789, 1) = 3"
        }) {
            run("save(0)", "write(bound9,again)", "20* again()", "save(1)", "bound(5)", "spare()", "strike()", call, "undo() = 13",
                    "about(6) = 2");
        }
    }

    @Sentence("20: Returns how many primes are not above x.")
    void primesNotAbove() {
        run("primes(0) = 0", "primes(1) = 0", "primes(2) = 1", "primes(3) = 2", "primes(4) = 2", "primes(5) = 3");
        run("primes(60) = 17", "primes(61) = 18", "primes(64) = 18", "primes(66) = 18", "primes(67) = 19", "primes(126) = 30",
                "primes(127) = 31", "primes(128) = 31", "primes(129) = 31", "primes(130) = 31", "primes(131) = 32");
        run("primes(99988) = 9590", "primes(99989) = 9591", "primes(99990) = 9591", "primes(99991) = 9592",
                "primes(99998) = 9592", "primes(99999) = 9592");
    }

    @Sentence("20: x: 0 to 99999. Throws IllegalArgumentException if x is out of range")
    void primesTakes0To99999() {
        argument("primes", "argument", of(0, 1, 99998, 99999), of(-1, 100000, MIN, MAX), "bound(1)");
    }

    @Sentence("21: Returns the sum of the primes that are not above x.")
    void sumOfPrimesNotAbove() {
        run("sumOf(0) = 0", "sumOf(1) = 0", "sumOf(2) = 2", "sumOf(3) = 5", "sumOf(4) = 5", "sumOf(5) = 10");
        run("sumOf(126) = 1593", "sumOf(127) = 1720", "sumOf(128) = 1720", "sumOf(129) = 1720", "sumOf(131) = 1851");
        run("sumOf(99988) = 454196557", "sumOf(99989) = 454296546", "sumOf(99990) = 454296546", "sumOf(99991) = 454396537",
                "sumOf(99999) = 454396537");
    }

    @Sentence("21: x: 0 to 99999. Throws IllegalArgumentException if x is out of range")
    void sumOfTakes0To99999() {
        argument("sumOf", "argument", of(0, 1, 99998, 99999), of(-1, 100000, MIN, MAX), "bound(1)");
    }

    @Sentence("22: Returns how many primes are from low to high.")
    void primesFromLowToHigh() {
        run("inSpan(0, 0) = 0", "inSpan(0, 1) = 0", "inSpan(1, 1) = 0", "inSpan(0, 2) = 1", "inSpan(2, 2) = 1", "inSpan(2, 3) = 2",
                "inSpan(3, 3) = 1", "inSpan(4, 4) = 0");
        run("inSpan(3, 7) = 3", "inSpan(4, 7) = 2", "inSpan(3, 6) = 2", "inSpan(4, 6) = 1", "inSpan(8, 10) = 0",
                "inSpan(7, 11) = 2");
        run("inSpan(0, 99999) = 9592", "inSpan(1, 99999) = 9592", "inSpan(2, 99999) = 9592", "inSpan(3, 99999) = 9591",
                "inSpan(99991, 99991) = 1", "inSpan(99991, 99999) = 1", "inSpan(99992, 99999) = 0", "inSpan(99999, 99999) = 0");
    }

    @Sentence("22: low: 0 to 99999; high: low to 99999. Throws IllegalArgumentException if an argument is out of range")
    void inSpanTakesALowThatIsNotAboveTheHigh() {
        run("inSpan(0, 0)", "inSpan(5, 5)", "inSpan(5, 6)", "inSpan(99999, 99999)", "inSpan(0, 99999)");
        for (String arguments : new String[] {
            "-1, 5", "-1, -1", "min, 5", "5, 4", "5, -1", "1, 0", "99999, 99998", "5, 100000", "99999, 100000",
            "100000, 100000", "100000, 99999", "max, max", "0, max", "min, max", "0, min", "max, min"
        }) {
            run("bound(1)", "inSpan(" + arguments + ") !argument");
        }
    }

    @Sentence("23: Returns how many primes that are not above x have this rest, divided by 4.")
    void primesByTheirRest() {
        run("byRest(0, 0) = 0", "byRest(0, 1) = 0", "byRest(0, 2) = 0", "byRest(0, 3) = 0", "byRest(1, 1) = 0", "byRest(1, 2) = 0",
                "byRest(2, 2) = 1", "byRest(2, 3) = 0", "byRest(3, 3) = 1", "byRest(4, 0) = 0", "byRest(4, 1) = 0",
                "byRest(5, 1) = 1", "byRest(6, 3) = 1", "byRest(7, 3) = 2");
        run("byRest(127, 0) = 0", "byRest(127, 1) = 14", "byRest(127, 2) = 1", "byRest(127, 3) = 16", "byRest(126, 3) = 15",
                "byRest(130, 3) = 16", "byRest(131, 3) = 17");
        run("byRest(99999, 0) = 0", "byRest(99999, 1) = 4783", "byRest(99999, 2) = 1", "byRest(99999, 3) = 4808",
                "byRest(99991, 3) = 4808", "byRest(99990, 3) = 4807", "byRest(99989, 1) = 4783", "byRest(99988, 1) = 4782");
    }

    @Sentence("23: x: 0 to 99999; rest: 0 to 3. Throws IllegalArgumentException if an argument is out of range")
    void byRestTakes0To99999AndRests0To3() {
        run("byRest(0, 0)", "byRest(0, 3)", "byRest(99999, 0)", "byRest(99999, 3)");
        for (String arguments : new String[] {
            "-1, 0", "-1, 3", "100000, 0", "100000, 3", "min, 1", "max, 1", "0, -1", "0, 4", "99999, -1", "99999, 4", "5, min",
            "5, max", "-1, 4", "100000, -1"
        }) {
            run("bound(1)", "byRest(" + arguments + ") !argument");
        }
    }

    @Sentence("24: k: 1 to 9592: the first prime, the second one, and so on. Returns that prime.")
    void primeByItsRank() {
        run("prime(1) = 2", "prime(2) = 3", "prime(3) = 5", "prime(4) = 7", "prime(5) = 11", "prime(18) = 61", "prime(19) = 67",
                "prime(30) = 113", "prime(31) = 127", "prime(32) = 131", "prime(9590) = 99971", "prime(9591) = 99989",
                "prime(9592) = 99991");
        for (int first = 1; first <= 9592; first += 200) {
            everyPrime(first, Math.min(first + 199, 9592));
        }
    }

    private void everyPrime(int first, int last) {
        String[] rows = new String[last - first + 1];
        for (int rank = first; rank <= last; rank++) {
            rows[rank - first] = "1* prime(" + rank + ") = " + primeOfRank(rank);
        }
        run(rows);
    }

    private static final java.util.List<Integer> FOUND = new java.util.ArrayList<>();

    /** By trial division, so that nothing of the class is used. */
    private static int primeOfRank(int rank) {
        for (int x = FOUND.isEmpty() ? 2 : FOUND.get(FOUND.size() - 1) + 1; FOUND.size() < rank; x++) {
            int number = x;
            if (FOUND.stream().takeWhile(p -> p * p <= number).noneMatch(p -> number % p == 0)) {
                FOUND.add(x);
            }
        }
        return FOUND.get(rank - 1);
    }

    @Sentence("24: Throws IllegalArgumentException if k is out of range")
    void primeTakes1To9592() {
        argument("prime", "argument", of(1, 2, 9591, 9592), of(0, -1, 9593, 9594, MIN, MAX), "bound(1)");
    }

    @Sentence("25: Returns the least prime that divides it.")
    void theLeastPrimeThatDivides() {
        run("leastFactor(2) = 2", "leastFactor(3) = 3", "leastFactor(4) = 2", "leastFactor(9) = 3", "leastFactor(15) = 3",
                "leastFactor(25) = 5", "leastFactor(35) = 5", "leastFactor(49) = 7", "leastFactor(97) = 97");
        run("leastFactor(97343) = 311", "leastFactor(97967) = 97967", "leastFactor(97969) = 313", "leastFactor(99991) = 99991",
                "leastFactor(99998) = 2", "leastFactor(99999) = 3");
    }

    @Sentence("25: x: 2 to 99999. Throws IllegalArgumentException if x is out of range")
    void leastFactorTakes2To99999() {
        argument("leastFactor", "argument", of(2, 3, 99998, 99999), of(1, 0, -1, -2, 100000, MIN, MAX), "bound(1)");
    }

    @Sentence("26: Returns how many numbers from 2 to x have p as their least factor; ..")
    void numbersByTheirLeastFactor() {
        run("withLeast(1, 2) = 0", "withLeast(2, 2) = 1", "withLeast(3, 2) = 1", "withLeast(4, 2) = 2", "withLeast(2, 3) = 0",
                "withLeast(3, 3) = 1", "withLeast(8, 3) = 1", "withLeast(9, 3) = 2", "withLeast(14, 3) = 2",
                "withLeast(15, 3) = 3", "withLeast(24, 5) = 1", "withLeast(25, 5) = 2");
        run("withLeast(99998, 2) = 49999", "withLeast(99999, 2) = 49999", "withLeast(99999, 3) = 16667",
                "withLeast(97968, 313) = 1", "withLeast(97969, 313) = 2", "withLeast(99999, 313) = 3",
                "withLeast(99999, 317) = 1", "withLeast(99999, 311) = 4", "withLeast(99990, 99991) = 0",
                "withLeast(99991, 99991) = 1", "withLeast(99999, 99991) = 1");
    }

    @Sentence("26: .. 0 if p is no prime.")
    void noneHaveANumberThatIsNoPrime() {
        run("withLeast(99999, 4) = 0", "withLeast(4, 4) = 0", "withLeast(9, 9) = 0", "withLeast(99999, 6) = 0",
                "withLeast(99999, 97969) = 0", "withLeast(99999, 99999) = 0", "withLeast(1, 99999) = 0", "withLeast(1, 4) = 0");
    }

    @Sentence("26: x: 1 to 99999; p: 2 to 99999. Throws IllegalArgumentException if an argument is out of range")
    void withLeastTakes1To99999And2To99999() {
        run("withLeast(1, 2)", "withLeast(1, 99999)", "withLeast(99999, 2)", "withLeast(99999, 99999)");
        for (String arguments : new String[] {
            "0, 2", "-1, 2", "100000, 2", "0, 99999", "100000, 99999", "min, 2", "max, 2", "1, 1", "99999, 1", "5, 0", "5, -2",
            "1, 100000", "99999, 100000", "5, min", "5, max", "0, 1", "100000, 100000"
        }) {
            run("bound(1)", "withLeast(" + arguments + ") !argument");
        }
    }

    @Sentence("27: Returns how many numbers that are not above x are a prime times a prime (the same one perhaps).")
    void primesTimesOneAnother() {
        run("twoFactors(0) = 0", "twoFactors(1) = 0", "twoFactors(3) = 0", "twoFactors(4) = 1", "twoFactors(5) = 1",
                "twoFactors(6) = 2", "twoFactors(8) = 2", "twoFactors(9) = 3", "twoFactors(10) = 4", "twoFactors(13) = 4",
                "twoFactors(14) = 5", "twoFactors(15) = 6", "twoFactors(24) = 8", "twoFactors(25) = 9", "twoFactors(26) = 10");
        run("twoFactors(97968) = 22921", "twoFactors(97969) = 22922", "twoFactors(99997) = 23377", "twoFactors(99998) = 23378",
                "twoFactors(99999) = 23378");
    }

    @Sentence("27: x: 0 to 99999. Throws IllegalArgumentException if x is out of range")
    void twoFactorsTakes0To99999() {
        argument("twoFactors", "argument", of(0, 1, 99998, 99999), of(-1, 100000, MIN, MAX), "bound(1)");
    }
}
