import java.util.ArrayList;
import java.util.List;

/** The sentences of the promises 1 to 19 that name a boundary: the text, what there is, actions, what would be. */
public final class StateTests extends Sentences {
    private static final long MIN = Integer.MIN_VALUE;
    private static final long MAX = Integer.MAX_VALUE;

    public static void main(String[] args) {
        new StateTests().runAll(args);
    }

    // ---- text

    @Sentence("1: Creates a table with the bound 100.")
    void aNewObject() {
        run("about(0) = 100", "about(1) = 19", "about(2) = 0", "about(3) = 0", "about(4) = 100", "about(5) = 2",
                "about(6) = NONE", "came(0) = 0", "errorPosition() = 0", "load() !state", "undo() !state", "restore(0) !state",
                "restore(1) !state", "clearText() = 0");
    }

    @Sentence("1: Creates a table ..")
    void aTableKnowsNothingOfAnother() {
        StruckCounts one = new StruckCounts();
        StruckCounts other = new StruckCounts();
        one.strike();
        one.save(0);
        one.append('x');
        due("about(2) of the other", 0, other.about(2));
        due("errorPosition() of the other", 0, other.errorPosition());
        other.bound(30);
        other.spare();
        other.strike();
        due("about(0) of the one", 100, one.about(0));
        due("about(4) of the one", 50, one.about(4));
        due("about(4) of the other", 20, other.about(4));
        due("simulate(0, 1) of the other, that strikes", 16, other.simulate(0, 1));
        due("runScript(1, 900002) of the one", NONE, one.runScript(1, 900002));
        due("runScript(1, 900002) of the other", 0, other.runScript(1, 900002));
        due("save(0) of the other", 30, other.save(0));
        due("restore(0) of the one", 100, one.restore(0));
        due("came(0) of the one", 2, one.came(0));
        due("clearText() of the one", 1, one.clearText());
        due("undo() of the other", 2, other.undo());
        due("sumLeft(0) of the other", 465, other.sumLeft(0));
        due("restore(0) of the other", 30, other.restore(0));
        due("about(4) of the other", 20, other.about(4));
        due("about(4) of a third one", 100, new StruckCounts().about(4));
    }

    @Sentence("2: Appends a character to the text buffer.")
    void appendAddsAtTheEnd() {
        run("append(115)", "append(116)", "append(114)", "append(105)", "append(107)", "append(101)", "errorPosition() = NONE",
                "load() = 0", "about(2) = 1", "append(51)", "load() = 0", "about(2) = 3", "append(44)", "errorPosition() = 8",
                "append(115)", "errorPosition() = 9");
        run("append(107)", "append(101)", "errorPosition() = 0");
    }

    @Sentence("2: c: character code, 0 to 255. Throws IllegalArgumentException if c is out of range")
    void appendTakes0To255() {
        argument("append", "argument", of(0, 1, 127, 128, 254, 255), of(-1, 256, MIN, MAX));
        argument("append", "argument", of(0, 255), of(-1, 256, MIN, MAX), "write(again)", "strike()");
    }

    @Sentence("2: Returns the new length of the text.")
    void appendReturnsTheNewLength() {
        List<String> rows = new ArrayList<>();
        for (int length = 1; length <= 60; length++) {
            rows.add("append(" + (64 + length) + ") = " + length);
        }
        run(rows);
        run("append(97) = 1", "clearText()", "append(97) = 1", "append(97) = 2");
    }

    @Sentence("2: Throws IllegalStateException if the text already has 60 characters")
    void appendTo60Characters() {
        run("59* append(48)", "append(0) = 60", "append(0) !state", "append(255) !state", "append(97) !state");
        run("write(again,again,again,again,again,again,again,again,again,again)", "errorPosition() = NONE");
        run("60* append(48)", "append(97) !state", "clearText() = 60", "59* append(48)", "append(97) = 60", "append(97) !state");
    }

    @Sentence("3: Empties the text buffer.")
    void clearTextEmpties() {
        run("write(strike)", "clearText()", "errorPosition() = 0", "load() !state", "append(44) = 1", "errorPosition() = 0");
        run("write(strike)", "clearText()", "write(spare)", "errorPosition() = NONE", "load() = 0", "about(3) = 1");
        run("strike()", "save(0)", "write(x)", "clearText() = 1", "undo() = 0", "restore(0) = 100", "about(2) = 1");
        // What stood behind the new end must not be read.
        run("write(strike9,again)", "clearText()", "write(s)", "errorPosition() = 1", "write(tri)", "errorPosition() = 4",
                "write(ke)", "errorPosition() = NONE", "load() = 0", "about(2) = 1");
        run("write(bound55)", "clearText()", "write(bound)", "errorPosition() = 5", "append(55)", "load() = 0", "about(0) = 7");
        run("write(again,x)", "clearText()", "write(spare)", "errorPosition() = NONE", "load() = 0", "about(3) = 1");
    }

    @Sentence("3: Returns the previous length of the text.")
    void clearTextReturnsThePreviousLength() {
        run("clearText() = 0", "clearText() = 0");
        run("append(0)", "clearText() = 1", "clearText() = 0");
        run("59* append(97)", "clearText() = 59");
        run("60* append(97)", "append(97) !state", "clearText() = 60", "clearText() = 0");
    }

    @Sentence("4: Returns the error position of the text; NONE if it is a table.")
    void errorPositionOrNone() {
        run("errorPosition() = 0", "append(115)", "errorPosition() = 1", "append(112)", "errorPosition() = 2", "write(are)",
                "errorPosition() = NONE", "append(50)", "errorPosition() = NONE", "append(44)", "errorPosition() = 7",
                "append(44)", "errorPosition() = 7", "append(97)", "errorPosition() = 7", "clearText()", "errorPosition() = 0");
    }

    @Sentence("4: Checks the text.")
    void theTextIsCheckedAndNotDone() {
        run("write(bound7,spare)", "errorPosition() = NONE", "about(0) = 100", "about(3) = 0", "clearText() = 12",
                "errorPosition() = 0");
        run("strike()", "save(0)", "write(bound7,spare0)", "errorPosition() = 12", "errorPosition() = 12", "about(2) = 1",
                "undo() = 0", "restore(0) = 100");
        run("bound(1)", "write(spare9)", "errorPosition() = NONE", "append(57)", "errorPosition() = 6");
    }

    @Sentence("5: Makes everything as in a new object, and then does the words of the text: ..")
    void loadMakesEverythingAsInANewObject() {
        run("bound(50)", "strikeTo(99999)", "write(spare)", "load() = 0", "about(0) = 100", "about(2) = 0", "about(3) = 1",
                "about(4) = 100", "about(5) = 3", "about(6) = 2", "came(1) = 0");
        run("bound(50)", "write(again)", "load() = 0", "about(0) = 100", "about(1) = 19");
        run("strike()", "write(strike)", "load() = 0", "about(2) = 1", "came(0) = 2", "came(1) = 0");
        run("write(bound5,spare)", "load() = 0", "load() = 0", "about(0) = 5", "about(3) = 1");
    }

    @Sentence("5: .. bound(), and strike() and spare() once for each prime; a call that would throw an exception is left out.")
    void loadLeavesOutWhatWouldThrow() {
        run("write(bound6,strike3)", "load() = 0", "about(2) = 3");
        run("write(bound6,strike4)", "load() = 1", "about(2) = 3", "about(5) = NONE");
        run("write(bound6,spare2,strike9)", "load() = 8", "came(0) = -2", "came(1) = -3", "came(2) = 5", "came(3) = 0");
        run("write(bound1,strike,bound2,spare)", "load() = 1", "about(3) = 1", "about(6) = 2");
        run("write(bound1,spare9,bound1,strike,again)", "load() = 10", "about(0) = 1", "about(2) = 0");
    }

    @Sentence("5: Behind it no state is remembered, and both save slots are empty.")
    void loadForgetsStatesAndSlots() {
        run("save(0)", "save(1)", "20* strike()", "write(bound30,strike,spare)", "load() = 0", "undo() !state",
                "restore(0) !state", "restore(1) !state", "about(0) = 30");
        run("save(0)", "save(1)", "write(again)", "load() = 0", "save(1)", "restore(0) !state", "restore(1) = 100");
        run("strike()", "write(again)", "load() = 0", "spare()", "undo() = 0", "undo() !state");
    }

    @Sentence("5: Keeps the text.")
    void loadKeepsTheText() {
        run("write(again)", "load() = 0", "errorPosition() = NONE", "load() = 0", "append(44) = 6", "load() !state",
                "write(spare)", "load() = 0", "about(3) = 1", "clearText() = 11");
        run("write(again,again,again,again,again,again,again,again,again,strike)", "load() = 0", "append(97) !state",
                "clearText() = 60");
    }

    @Sentence("5: Returns the number of calls that are left out.")
    void loadReturnsTheNumberOfCallsLeftOut() {
        run("write(bound2,strike)", "load() = 0");
        run("write(bound2,strike2)", "load() = 1");
        run("write(bound1,strike)", "load() = 1");
        run("write(bound1,strike9,spare9,strike9,spare9,strike9,spare9,spare9)", "load() = 63");
        run("write(bound179,strike9,spare9,strike9,spare9,strike4)", "load() = 0", "about(6) = 173");
        run("write(bound179,strike9,spare9,strike9,spare9,strike5)", "load() = 1", "about(2) = 22");
        run("write(bound179,strike9,spare9,strike9,spare9,strike5,spare9)", "load() = 10", "about(3) = 18");
    }

    @Sentence("5: Throws IllegalStateException if the text is not a table")
    void loadOfNoTable() {
        run("load() !state");
        run("write(bound)", "load() !state", "append(48)", "load() !state", "clearText()", "write(bound5)", "load() = 0");
        run("save(0)", "save(1)", "14* spare()", "write(strike,bound7,spare,)", "load() !state", "restore(1) = 100");
        run("20* strike()", "write(bound7,strike1)", "load() !state", "undo() = 13");
    }

    // ---- what there is

    @Sentence("6: what: 0: the bound; ..")
    void aboutTheBound() {
        run("about(0) = 100", "bound(1)", "about(0) = 1", "bound(99999)", "about(0) = 99999", "undo()", "about(0) = 1");
    }

    @Sentence("6: .. 1: the unlike quotients; ..")
    void aboutTheUnlikeQuotients() {
        run("about(1) = 19", "bound(1)", "about(1) = 1", "bound(2)", "about(1) = 2", "bound(99999)", "about(1) = 631");
        run("bound(99)", "about(1) = 18", "bound(110)", "about(1) = 20", "bound(109)", "about(1) = 19");
    }

    @Sentence("6: .. 2: the primes that struck; 3: those that were spared; ..")
    void aboutThePrimesThatStruckAndWereSpared() {
        run("about(2) = 0", "about(3) = 0", "spare()", "about(2) = 0", "about(3) = 1", "strike()", "about(2) = 1", "about(3) = 1");
        run("bound(99999)", "40* strike()", "about(2) = 40", "about(3) = 0", "again()", "about(2) = 0", "about(3) = 0");
        run("bound(99999)", "40* spare()", "about(2) = 0", "about(3) = 40", "bound(99999)", "about(3) = 0");
    }

    @Sentence("6: .. 4: the numbers from 1 to n that are left; ..")
    void aboutTheNumbersLeft() {
        run("bound(1)", "about(4) = 1");
        run("bound(2)", "about(4) = 2", "strike()", "about(4) = 1");
        run("bound(99999)", "about(4) = 99999", "strike()", "about(4) = 50000", "strikeTo(99999) = 39", "about(4) = 10287");
        run("bound(99999)", "39* spare()", "about(4) = 99999", "strike() = 578", "about(4) = 99421");
    }

    @Sentence("6: .. 5: the next prime, NONE if it is above the bound, or 40 came; ..")
    void aboutTheNextPrime() {
        run("bound(1)", "about(5) = NONE", "bound(2)", "about(5) = 2", "spare()", "about(5) = NONE");
        run("bound(2)", "strike()", "about(5) = NONE", "bound(3)", "strike()", "about(5) = 3", "strike()", "about(5) = NONE");
        run("bound(172)", "38* spare()", "about(5) = 167", "spare()", "about(5) = NONE");
        run("bound(173)", "39* spare()", "about(5) = 173", "spare()", "about(5) = NONE");
        run("bound(99999)", "39* spare()", "about(5) = 173", "strike()", "about(5) = NONE", "undo()", "about(5) = 173");
    }

    @Sentence("6: .. 6: the last prime that came, NONE if none has")
    void aboutTheLastPrime() {
        run("about(6) = NONE", "strike()", "about(6) = 2", "spare()", "about(6) = 3", "again()", "about(6) = NONE");
        run("bound(1)", "about(6) = NONE", "strikeTo(99999)", "about(6) = NONE");
        run("bound(99999)", "strikeTo(99999)", "about(6) = 173", "undo()", "about(6) = NONE");
    }

    @Sentence("6: Returns a number. .. Returns that number.")
    void aboutAll() {
        run("bound(60)", "strike()", "spare()", "strike()", "about(0) = 60", "about(1) = 14", "about(2) = 2", "about(3) = 1",
                "about(4) = 24", "about(5) = 7", "about(6) = 5");
        run("bound(99999)", "39* spare()", "strike()", "about(0) = 99999", "about(1) = 631", "about(2) = 1", "about(3) = 39",
                "about(4) = 99421", "about(5) = NONE", "about(6) = 173");
    }

    @Sentence("6: Throws IllegalArgumentException if what is not 0 to 6")
    void aboutTakes0To6() {
        argument("about", "argument", of(0, 1, 2, 3, 4, 5, 6), of(-1, 7, MIN, MAX));
        argument("about", "argument", of(0, 6), of(-1, 7), "bound(1)", "write(again)");
    }

    @Sentence("7: q: which one, from 0. Returns the quotient.")
    void quotientByItsNumber() {
        run("quotient(0) = 100", "quotient(1) = 50", "quotient(2) = 33", "quotient(3) = 25", "quotient(4) = 20",
                "quotient(5) = 16", "quotient(6) = 14", "quotient(7) = 12", "strikeTo(9)", "quotient(7) = 12", "bound(2)",
                "quotient(0) = 2", "quotient(1) = 1", "undo()", "quotient(1) = 50");
    }

    @Sentence("7: Throws IndexOutOfBoundsException if there are not so many")
    void quotientOfARankThatIsNot() {
        argument("quotient", "index", of(0, 18), of(-1, 19, MIN, MAX));
        argument("quotient", "index", of(0), of(-1, 1, MIN, MAX), "bound(1)");
        argument("quotient", "index", of(0, 315, 316, 630), of(-1, 631, MIN, MAX), "bound(99999)");
        run("quotient(0) = 100", "quotient(1) = 50", "quotient(8) = 11", "quotient(9) = 10", "quotient(10) = 9",
                "quotient(17) = 2", "quotient(18) = 1");
        run("bound(99999)", "quotient(315) = 316", "quotient(316) = 315");
    }

    @Sentence("8: v: any number. Returns which quotient it is, from 0; NONE if it is none.")
    void quotientOfAnyNumber() {
        run("quotientOf(min) = NONE", "quotientOf(-100) = NONE", "quotientOf(-1) = NONE", "quotientOf(0) = NONE",
                "quotientOf(1) = 18", "quotientOf(2) = 17", "quotientOf(10) = 9", "quotientOf(11) = 8", "quotientOf(12) = 7",
                "quotientOf(13) = NONE", "quotientOf(14) = 6", "quotientOf(15) = NONE", "quotientOf(49) = NONE",
                "quotientOf(50) = 1", "quotientOf(51) = NONE", "quotientOf(99) = NONE", "quotientOf(100) = 0",
                "quotientOf(101) = NONE", "quotientOf(200) = NONE", "quotientOf(max) = NONE");
        run("bound(1)", "quotientOf(0) = NONE", "quotientOf(1) = 0", "quotientOf(2) = NONE");
        run("bound(99999)", "quotientOf(99998) = NONE", "quotientOf(99999) = 0", "quotientOf(100000) = NONE",
                "quotientOf(315) = 316", "quotientOf(316) = 315", "quotientOf(317) = 314", "quotientOf(328) = 303",
                "quotientOf(329) = NONE", "quotientOf(330) = 302");
    }

    @Sentence("9: Returns how many numbers up to it are left.")
    void leftUpToAQuotient() {
        run("bound(30)", "strike()", "spare()", "strike()", "left(0) = 12", "left(1) = 6", "left(2) = 4", "left(3) = 3",
                "left(4) = 2", "left(5) = 2", "left(6) = 2", "left(7) = 2", "left(8) = 1", "left(9) = 1");
        run("bound(1)", "left(0) = 1");
        run("bound(99999)", "left(0) = 99999", "strikeTo(99999)", "left(0) = 10287", "left(630) = 1");
    }

    @Sentence("9: Throws IndexOutOfBoundsException if there are not so many quotients")
    void leftUpToAQuotientThatIsNot() {
        argument("left", "index", of(0, 18), of(-1, 19, MIN, MAX));
        argument("left", "index", of(0), of(-1, 1, MIN, MAX), "bound(1)");
        argument("left", "index", of(0, 630), of(-1, 631), "bound(99999)", "strikeTo(99999)");
    }

    @Sentence("10: Returns the sum of the numbers up to it that are left.")
    void sumLeftUpToAQuotient() {
        run("bound(30)", "strike()", "spare()", "strike()", "sumLeft(0) = 180", "sumLeft(1) = 44", "sumLeft(2) = 20",
                "sumLeft(3) = 11", "sumLeft(4) = 4", "sumLeft(5) = 4", "sumLeft(7) = 4", "sumLeft(8) = 1", "sumLeft(9) = 1");
        run("bound(1)", "sumLeft(0) = 1");
        run("bound(99999)", "sumLeft(0) = 4999950000", "strike()", "sumLeft(0) = 2500000000", "strikeTo(5)",
                "sumLeft(0) = 1333266668", "strikeTo(99999)", "sumLeft(0) = 508424203", "sumLeft(630) = 1");
        run("bound(99999)", "39* spare()", "strike()", "sumLeft(0) = 4971001737");
    }

    @Sentence("10: Throws IndexOutOfBoundsException if there are not so many quotients")
    void sumLeftUpToAQuotientThatIsNot() {
        argument("sumLeft", "index", of(0, 18), of(-1, 19, MIN, MAX));
        argument("sumLeft", "index", of(0), of(-1, 1, MIN, MAX), "bound(1)");
        argument("sumLeft", "index", of(0, 630), of(-1, 631), "bound(99999)", "strikeTo(99999)");
    }

    @Sentence("11: Returns how many numbers up to it are left that have this rest, divided by 4.")
    void restLeftUpToAQuotient() {
        run("bound(1)", "restLeft(0, 0) = 0", "restLeft(0, 1) = 1", "restLeft(0, 2) = 0", "restLeft(0, 3) = 0");
        run("bound(4)", "restLeft(0, 0) = 1", "restLeft(0, 1) = 1", "restLeft(0, 2) = 1", "restLeft(0, 3) = 1",
                "strike()", "restLeft(0, 0) = 0", "restLeft(0, 1) = 1", "restLeft(0, 2) = 0", "restLeft(0, 3) = 1");
        run("bound(30)", "strike()", "spare()", "strike()", "restLeft(0, 0) = 0", "restLeft(0, 1) = 6", "restLeft(0, 2) = 0",
                "restLeft(0, 3) = 6", "restLeft(3, 1) = 1", "restLeft(3, 3) = 2", "restLeft(8, 1) = 1", "restLeft(8, 3) = 0");
        run("bound(99999)", "39* spare()", "strike()", "restLeft(0, 0) = 24855", "restLeft(0, 1) = 24855",
                "restLeft(0, 2) = 24855", "restLeft(0, 3) = 24856");
        run("bound(99999)", "strikeTo(99999)", "restLeft(0, 0) = 0", "restLeft(0, 1) = 5139", "restLeft(0, 2) = 0",
                "restLeft(0, 3) = 5148");
    }

    @Sentence("11: Throws IndexOutOfBoundsException if there are not so many quotients")
    void restLeftUpToAQuotientThatIsNot() {
        for (int rest = 0; rest <= 3; rest++) {
            run("restLeft(0, " + rest + ")", "restLeft(18, " + rest + ")", "restLeft(19, " + rest + ") !index",
                    "restLeft(-1, " + rest + ") !index", "bound(1)", "restLeft(0, " + rest + ")",
                    "restLeft(1, " + rest + ") !index");
        }
    }

    @Sentence("11: rest: 0 to 3. Throws IllegalArgumentException if rest is out of range")
    void restLeftTakesRests0To3() {
        for (String rest : new String[] {"4", "-1", "min", "max"}) {
            run("restLeft(0, " + rest + ") !argument", "restLeft(18, " + rest + ") !argument", "restLeft(19, " + rest + ") !index",
                    "restLeft(-1, " + rest + ") !index");
        }
        run("restLeft(0, 0) = 25", "restLeft(0, 3) = 25");
    }

    @Sentence("12: Returns the prime if it struck, 0 less the prime if it was spared; 0 if not so many came.")
    void cameOrNot() {
        run("came(0) = 0", "came(max) = 0", "strike()", "came(0) = 2", "came(1) = 0", "spare()", "came(1) = -3", "came(2) = 0",
                "came(max) = 0", "undo()", "came(0) = 2", "came(1) = 0", "again()", "came(0) = 0");
        run("bound(99999)", "39* strike()", "came(38) = 167", "came(39) = 0", "spare()", "came(39) = -173", "came(40) = 0",
                "came(41) = 0", "came(max) = 0", "undo()", "strike()", "came(39) = 173");
        run("bound(99999)", "31* spare()", "strike()", "spare()", "came(30) = -127", "came(31) = 131", "came(32) = -137",
                "came(33) = 0", "came(63) = 0", "came(64) = 0", "came(95) = 0");
    }

    @Sentence("12: Returns a prime that came. k: which one, from 0.")
    void cameByItsNumber() {
        int[] primes = {
            2, 3, 5, 7, 11, 13, 17, 19, 23, 29, 31, 37, 41, 43, 47, 53, 59, 61, 67, 71, 73, 79, 83, 89, 97, 101, 103,
            107, 109, 113, 127, 131, 137, 139, 149, 151, 157, 163, 167, 173
        };
        List<String> rows = new ArrayList<>(List.of("bound(173)"));
        for (int k = 0; k < primes.length; k++) {
            rows.add(k % 3 == 1 ? "spare()" : "strike()");
        }
        for (int k = 0; k < primes.length; k++) {
            rows.add("1* came(" + k + ") = " + (k % 3 == 1 ? -primes[k] : primes[k]));
        }
        run(rows);
    }

    @Sentence("12: Throws IllegalArgumentException if k is negative")
    void cameTakesNoNegative() {
        argument("came", "argument", of(0, 1, MAX), of(-1, -2, MIN));
        argument("came", "argument", of(0, 39, 40), of(-1, -40, MIN), "bound(99999)", "40* strike()");
    }

    // ---- actions

    @Sentence("13: Changes the bound; no prime has come then.")
    void boundChangesTheBound() {
        run("strike()", "spare()", "bound(100) = 100", "about(2) = 0", "about(3) = 0", "about(4) = 100", "about(5) = 2",
                "about(6) = NONE", "came(0) = 0");
        run("bound(99999)", "40* strike()", "bound(1) = 99999", "about(1) = 1", "about(4) = 1", "about(5) = NONE");
        run("bound(2)", "strike()", "bound(3) = 2", "about(4) = 3", "about(5) = 2");
    }

    @Sentence("13: Returns the previous bound.")
    void boundReturnsThePreviousOne() {
        run("bound(1) = 100", "bound(99999) = 1", "bound(99999) = 99999", "bound(0) !argument", "bound(1) = 99999", "undo()",
                "bound(5) = 99999");
    }

    @Sentence("13: n: 1 to 99999. Throws IllegalArgumentException if n is out of range")
    void boundTakes1To99999() {
        argument("bound", "argument", of(1, 2, 99998, 99999), of(0, -1, 100000, MIN, MAX));
        argument("bound", "argument", of(1, 99999), of(0, 100000), "save(0)", "14* spare()", "strike()");
    }

    @Sentence("14: The next prime strikes.")
    void strikeLetsTheNextPrimeStrike() {
        run("strike()", "about(6) = 2", "about(5) = 3", "came(0) = 2", "left(0) = 50", "sumLeft(0) = 2500", "strike()",
                "about(6) = 3", "came(1) = 3", "left(0) = 33", "about(2) = 2", "about(3) = 0", "about(0) = 100");
    }

    @Sentence("14: Returns how many numbers from 1 to n it strikes that were left.")
    void strikeReturnsHowManyItStrikes() {
        run("bound(2)", "strike() = 1");
        run("bound(30)", "strike() = 15", "strike() = 5", "strike() = 2", "strike() = 1", "strike() = 1");
        run("bound(30)", "spare()", "strike() = 10", "spare()", "strike() = 3");
        run("bound(25)", "strike() = 12", "strike() = 4", "strike() = 2", "spare()", "strike() = 1");
        run("bound(24)", "strike() = 12", "strike() = 4", "strike() = 1");
        List<String> rows = new ArrayList<>(List.of("bound(99999)"));
        for (int strikes : new int[] {
            49999, 16667, 6667, 3809, 2078, 1598, 1128, 950, 742, 556, 500, 406, 359, 336, 306, 275, 249, 243, 220, 204,
            200, 185, 176, 166, 149, 142, 138, 132, 129, 125, 109, 105, 98, 96, 88, 87, 80, 76, 71, 68
        }) {
            rows.add("strike() = " + strikes);
        }
        run(rows);
    }

    @Sentence("14: Throws IllegalStateException if the next prime is above the bound, or 40 came")
    void strikeWithoutANextPrime() {
        run("bound(1)", "strike() !state");
        run("bound(2)", "strike() = 1", "strike() !state", "bound(3)", "2* strike()", "strike() !state", "about(2) = 2");
        run("bound(4)", "2* strike()", "strike() !state", "undo() = 2", "strike() = 1");
        run("bound(5)", "2* strike()", "strike() = 1", "strike() !state");
        run("bound(172)", "39* strike()", "strike() !state");
        run("bound(173)", "39* strike()", "strike() = 1", "strike() !state");
        run("bound(99999)", "40* strike()", "strike() !state", "about(2) = 40", "undo() = 13", "strike() = 68");
        run("bound(99999)", "40* spare()", "strike() !state", "about(2) = 0");
    }

    @Sentence("15: The next prime is spared.")
    void spareLetsTheNextPrimeComeWithoutAStrike() {
        run("spare()", "about(6) = 2", "about(5) = 3", "came(0) = -2", "left(0) = 100", "sumLeft(0) = 5050", "strike()",
                "spare()", "about(6) = 5", "came(2) = -5", "left(0) = 67", "about(2) = 1", "about(3) = 2", "about(0) = 100");
    }

    @Sentence("15: Returns the prime.")
    void spareReturnsThePrime() {
        run("bound(2)", "spare() = 2");
        run("spare() = 2", "spare() = 3", "strike()", "spare() = 7", "about(4) = 80", "undo()", "spare() = 7");
        run("bound(99999)", "39* strike()", "spare() = 173");
    }

    @Sentence("15: Throws IllegalStateException if the next prime is above the bound, or 40 came")
    void spareWithoutANextPrime() {
        run("bound(1)", "spare() !state");
        run("bound(2)", "spare() = 2", "spare() !state", "about(3) = 1");
        run("bound(4)", "2* spare()", "spare() !state", "undo() = 2", "spare() = 3");
        run("bound(5)", "2* spare()", "spare() = 5", "spare() !state");
        run("bound(172)", "39* spare()", "spare() !state");
        run("bound(173)", "39* spare()", "spare() = 173", "spare() !state");
        run("bound(99999)", "40* spare()", "spare() !state", "about(3) = 40", "undo() = 13", "spare() = 173");
    }

    @Sentence("16: Primes strike, as long as the next one is not above a number, ..")
    void strikeToANumber() {
        run("strikeTo(0) = 0", "strikeTo(1) = 0", "about(6) = NONE", "strikeTo(2) = 1", "strikeTo(2) = 0", "about(6) = 2");
        run("strikeTo(12) = 5", "about(6) = 11", "strikeTo(12) = 0", "strikeTo(13) = 1", "about(6) = 13");
        run("strikeTo(96) = 24", "about(6) = 89", "strikeTo(97) = 1", "about(5) = NONE");
        run("spare()", "strike()", "spare()", "strikeTo(6) = 0", "strikeTo(7) = 1", "about(2) = 2", "about(3) = 2");
    }

    @Sentence("16: .. nor above the bound, ..")
    void strikeToTheBound() {
        run("bound(1)", "strikeTo(99999) = 0", "about(6) = NONE");
        run("bound(2)", "strikeTo(99999) = 1", "about(6) = 2");
        run("bound(12)", "strikeTo(13) = 5", "about(6) = 11");
        run("bound(13)", "strikeTo(13) = 6", "about(6) = 13", "strikeTo(99999) = 0");
    }

    @Sentence("16: .. and 40 have not come.")
    void strikeToUntil40Came() {
        run("bound(99999)", "strikeTo(172) = 39", "about(6) = 167", "strikeTo(173) = 1", "strikeTo(99999) = 0", "about(2) = 40");
        run("bound(99999)", "strikeTo(99999) = 40", "about(6) = 173", "strikeTo(179) = 0");
        run("bound(99999)", "spare()", "strikeTo(99999) = 39", "about(2) = 39", "about(6) = 173");
        run("bound(99999)", "39* spare()", "strikeTo(99999) = 1", "came(39) = 173");
        run("bound(99999)", "40* spare()", "strikeTo(99999) = 0", "about(2) = 0");
    }

    @Sentence("16: Primes strike .. Returns how many strike.")
    void strikeToReturnsHowManyStrike() {
        run("strikeTo(30) = 10", "about(2) = 10", "about(3) = 0", "came(9) = 29", "left(0) = 16", "undo() = 0", "about(2) = 0",
                "spare()", "strikeTo(30) = 9", "about(2) = 9", "undo() = 1", "about(2) = 0", "about(3) = 1");
    }

    @Sentence("16: most: 0 to 99999. Throws IllegalArgumentException if most is out of range")
    void strikeToTakes0To99999() {
        argument("strikeTo", "argument", of(0, 1, 99998, 99999), of(-1, 100000, MIN, MAX));
        argument("strikeTo", "argument", of(0, 99999), of(-1, 100000), "bound(1)", "write(again)");
    }

    @Sentence("17: Begins again: no prime has come then. Returns how many had come.")
    void againReturnsHowManyHadCome() {
        run("again() = 0", "again() = 0", "about(0) = 100");
        run("strike()", "again() = 1", "about(2) = 0", "about(4) = 100", "about(5) = 2", "about(6) = NONE", "again() = 0");
        run("bound(30)", "spare()", "strike()", "spare()", "again() = 3", "about(0) = 30", "about(4) = 30", "undo() = 4",
                "again() = 3");
        run("bound(99999)", "39* strike()", "spare()", "again() = 40", "came(0) = 0", "about(5) = 2", "strike() = 49999");
        run("bound(1)", "again() = 0");
    }

    @Sentence("18: Takes back the last action that is remembered. Returns how many states are still remembered.")
    void undoTakesBackTheLastAction() {
        run("strike()", "undo() = 0", "about(6) = NONE", "about(4) = 100");
        run("bound(30)", "strike()", "spare()", "undo() = 2", "about(6) = 2", "about(4) = 15", "undo() = 1", "about(4) = 30",
                "undo() = 0", "about(0) = 100");
        run("bound(99999)", "40* strike()", "bound(1)", "undo() = 13", "about(0) = 99999", "about(2) = 40", "about(4) = 10287");
        run("14* spare()", "undo() = 13", "about(6) = 41", "spare() = 43", "undo() = 13");
    }

    @Sentence("18: Throws IllegalStateException if none is remembered")
    void undoOfNone() {
        run("undo() !state", "strike()", "undo() = 0", "undo() !state", "undo() !state");
        run("14* spare()", "14* undo()", "undo() !state", "about(6) = NONE");
        run("15* spare()", "14* undo()", "undo() !state", "about(6) = 2");
        run("strike()", "write(spare)", "load() = 0", "undo() !state", "about(3) = 1");
        run("save(0)", "strike()", "restore(0)", "undo() !state", "about(6) = NONE");
    }

    // ---- what would be

    @Sentence("19: Returns how many numbers up to it that are left the next prime would strike; ..")
    void wouldStrikeUpToAQuotient() {
        run("bound(30)", "spare()", "wouldStrike(0) = 10", "wouldStrike(1) = 5", "wouldStrike(2) = 3", "wouldStrike(3) = 2",
                "wouldStrike(4) = 2", "wouldStrike(5) = 1", "wouldStrike(6) = 1", "wouldStrike(7) = 1", "wouldStrike(8) = 0",
                "wouldStrike(9) = 0");
        run("bound(30)", "strike()", "wouldStrike(0) = 5", "wouldStrike(4) = 1", "wouldStrike(7) = 1", "wouldStrike(8) = 0");
        run("bound(99999)", "wouldStrike(0) = 49999", "wouldStrike(629) = 1", "wouldStrike(630) = 0", "39* strike()",
                "wouldStrike(0) = 68", "strike() = 68");
    }

    @Sentence("19: Tells what the next prime would strike. (.. change nothing)")
    void wouldStrikeOnlyTells() {
        run("wouldStrike(0) = 50", "wouldStrike(0) = 50", "about(6) = NONE", "about(4) = 100", "undo() !state", "strike() = 50",
                "wouldStrike(1) = 8", "left(1) = 25", "strike()", "left(1) = 17", "undo() = 1", "wouldStrike(1) = 8");
    }

    @Sentence("19: .. 0 if it is above the bound, or 40 came.")
    void wouldStrikeWithoutANextPrime() {
        run("bound(1)", "wouldStrike(0) = 0", "bound(2)", "wouldStrike(0) = 1", "wouldStrike(1) = 0", "strike()",
                "wouldStrike(0) = 0");
        run("bound(4)", "2* spare()", "wouldStrike(0) = 0", "bound(5)", "2* spare()", "wouldStrike(0) = 1");
        run("bound(172)", "39* spare()", "wouldStrike(0) = 0");
        run("bound(99999)", "39* spare()", "wouldStrike(0) = 578", "spare()", "wouldStrike(0) = 0", "wouldStrike(630) = 0");
    }

    @Sentence("19: Throws IndexOutOfBoundsException if there are not so many quotients")
    void wouldStrikeUpToAQuotientThatIsNot() {
        argument("wouldStrike", "index", of(0, 18), of(-1, 19, MIN, MAX));
        argument("wouldStrike", "index", of(0), of(-1, 1, MIN, MAX), "bound(1)");
        argument("wouldStrike", "index", of(0, 630), of(-1, 631), "bound(99999)", "strikeTo(99999)");
    }
}
