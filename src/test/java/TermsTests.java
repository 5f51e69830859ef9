import java.util.ArrayList;
import java.util.List;
import java.util.TreeSet;

/** The sentences of the part "Terms", and of those ahead of it, that name a boundary. */
public final class TermsTests extends Sentences {
    public static void main(String[] args) {
        new TermsTests().runAll(args);
    }

    // ---- ahead of the terms

    @Sentence("What it is: An object is used for at most 512 calls after it has been made.")
    void anObjectLasts512Calls() {
        run("500* bound(9)", "9* strikeTo(0)", "strikeTo(99999) = 4", "about(2) = 4", "undo() = 13");
        run("bound(99999)", "40* spare()", "469* again()", "strike() = 49999", "undo() = 13");
        run("60* append(97)", "451* errorPosition()", "clearText() = 60");
        run("510* again() = 0", "strike() = 50", "again() = 1");
        manyTimes(102, "strike() = 50", "spare() = 3", "undo()", "about(4) = 50", "again() = 1");
        manyTimes(102, "bound(9)", "strikeTo(9) = 4", "left(0) = 1", "undo()", "came(0) = 0");
        manyTimes(128, "append(97) = 1", "errorPosition() = 1", "clearText() = 1", "errorPosition() = 0");
        manyTimes(128, "save(1) = 100", "strike() = 50", "restore(1) = 100", "wouldStrike(0) = 50");
        manyTimes(64, "primes(10) = 4", "sumOf(10) = 17", "inSpan(3, 10) = 3", "byRest(10, 1) = 1", "prime(9592) = 99991",
                "leastFactor(77) = 7", "withLeast(99999, 2) = 49999", "twoFactors(10) = 4");
        manyTimes(64, "quotient(1) = 50", "quotientOf(50) = 1", "left(1) = 50", "sumLeft(1) = 1275", "restLeft(1, 3) = 12",
                "wouldStrike(1) = 25", "runScript(1, 200000) = NONE", "simulate(0, 60) = 1108");
    }

    private void manyTimes(int times, String... calls) {
        List<String> rows = new ArrayList<>();
        for (int i = 0; i < times; i++) {
            for (String call : calls) {
                rows.add("1* " + call);
            }
        }
        run(rows);
    }

    @Sentence("The constants: NONE = -1: There is no such result.")
    void noneIsOneBelowZero() {
        run("about(6) = -1", "quotientOf(0) = -1", "runScript(1, 500000) = -1", "write(again)", "errorPosition() = -1");
    }

    @Sentence("Terms: It tells what the next prime would strike, how many strikes are needed, what is left.")
    void itTellsWhatWouldBeStruckAndWhatIsLeft() {
        run("wouldStrike(0) = 50", "strike() = 50", "left(0) = 50", "wouldStrike(0) = 17", "strike() = 17", "left(0) = 33",
                "wouldStrike(0) = 7", "spare() = 5", "left(0) = 33", "wouldStrike(0) = 5", "strike() = 5", "left(0) = 28");
        run("bound(30)", "strikeTo(99999) = 10", "about(4) = 1", "wouldStrike(0) = 0");
        run("bound(30)", "strikeTo(6) = 3", "about(4) = 8", "strikeTo(28) = 6", "about(4) = 2", "strikeTo(99999) = 1",
                "about(4) = 1");
    }

    @Sentence("Terms: Changes can be undone.")
    void changesCanBeUndone() {
        run("bound(30)", "strike()", "spare()", "bound(60)", "strikeTo(7)", "again()", "spare()", "strike() = 20",
                "sumLeft(0) = 1200", "undo() = 7", "sumLeft(0) = 1830", "came(0) = -2", "came(1) = 0",
                "undo() = 6", "about(3) = 0", "about(6) = NONE",
                "undo() = 5", "about(2) = 4", "about(4) = 14", "came(3) = 7",
                "undo() = 4", "about(0) = 60", "about(4) = 60", "quotient(1) = 30",
                "undo() = 3", "about(0) = 30", "sumLeft(0) = 225", "came(0) = 2", "came(1) = -3", "wouldStrike(0) = 3",
                "undo() = 2", "came(1) = 0", "wouldStrike(0) = 5",
                "undo() = 1", "about(4) = 30", "wouldStrike(0) = 15", "undo() = 0", "about(0) = 100", "strike() = 50");
    }

    // ---- STRIKING

    @Sentence("STRIKING: There is a bound n, 1 to 99999, at first 100.")
    void theBoundIs1To99999AndAtFirst100() {
        run("about(0) = 100");
        run("bound(1) = 100", "about(0) = 1", "bound(0) !argument", "about(0) = 1");
        run("bound(99999) = 100", "about(0) = 99999", "bound(100000) !argument", "about(0) = 99999");
    }

    @Sentence("STRIKING: The numbers from 1 to n are there.")
    void theNumbersFrom1ToNAreThere() {
        run("left(0) = 100", "sumLeft(0) = 5050", "restLeft(0, 0) = 25", "restLeft(0, 1) = 25");
        run("bound(1)", "left(0) = 1", "sumLeft(0) = 1", "restLeft(0, 0) = 0", "restLeft(0, 1) = 1");
        run("bound(3)", "sumLeft(0) = 6", "restLeft(0, 0) = 0", "restLeft(0, 3) = 1");
        run("bound(4)", "sumLeft(0) = 10", "restLeft(0, 0) = 1", "restLeft(0, 1) = 1");
        run("bound(99998)", "about(4) = 99998", "sumLeft(0) = 4999850001", "restLeft(0, 3) = 24999");
        run("bound(99999)", "about(4) = 99999", "sumLeft(0) = 4999950000", "restLeft(0, 3) = 25000",
                "restLeft(0, 0) = 24999");
    }

    @Sentence("STRIKING: The primes 2, 3, 5, 7 and so on come in turn; each one either strikes or is spared.")
    void thePrimesComeInTurn() {
        run("about(5) = 2", "spare() = 2", "about(5) = 3", "strike() = 33", "about(5) = 5", "spare() = 5", "about(5) = 7",
                "strike()", "spare() = 11", "came(0) = -2", "came(1) = 3", "came(2) = -5", "came(3) = 7", "came(4) = -11",
                "came(5) = 0", "about(2) = 2", "about(3) = 3");
        List<String> rows = new ArrayList<>(List.of("bound(99999)"));
        for (int prime : new int[] {
            2, 3, 5, 7, 11, 13, 17, 19, 23, 29, 31, 37, 41, 43, 47, 53, 59, 61, 67, 71, 73, 79, 83, 89, 97, 101, 103,
            107, 109, 113, 127, 131, 137, 139, 149, 151, 157, 163, 167, 173
        }) {
            rows.add("spare() = " + prime);
        }
        run(rows);
    }

    @Sentence("STRIKING: A prime that strikes strikes all of its multiples, itself, too.")
    void aPrimeStrikesAllItsMultiplesAndItself() {
        run("bound(2)", "strike() = 1", "left(0) = 1", "sumLeft(0) = 1");
        run("bound(3)", "spare()", "strike() = 1", "sumLeft(0) = 3");
        run("bound(8)", "spare()", "strike() = 2", "sumLeft(0) = 27");
        run("bound(9)", "spare()", "strike() = 3", "sumLeft(0) = 27");
        run("bound(99998)", "strike() = 49999");
        run("bound(99999)", "strike() = 49999");
        run("bound(99993)", "39* spare()", "strike() = 577");
        run("bound(99994)", "39* spare()", "strike() = 578");
    }

    @Sentence("STRIKING: A number is left if no prime struck it (1 is always left).")
    void aNumberIsLeftIfNoPrimeStruckIt() {
        run("bound(6)", "strike() = 3", "strike() = 1", "left(0) = 2", "sumLeft(0) = 6");
        run("bound(9)", "spare()", "strike() = 3", "left(0) = 6", "sumLeft(0) = 27", "spare()", "left(0) = 6");
        run("bound(9)", "spare()", "spare()", "spare()", "spare()", "left(0) = 9");
    }

    @Sentence("STRIKING: (1 is always left)")
    void oneIsAlwaysLeft() {
        run("bound(1)", "left(0) = 1", "strikeTo(99999) = 0", "left(0) = 1", "sumLeft(0) = 1", "restLeft(0, 1) = 1");
        run("bound(2)", "strike() = 1", "left(0) = 1", "left(1) = 1", "restLeft(1, 1) = 1", "restLeft(0, 2) = 0");
        run("strikeTo(99999) = 25", "left(0) = 1", "sumLeft(0) = 1", "restLeft(0, 1) = 1", "left(18) = 1");
        run("bound(178)", "strikeTo(99999) = 40", "left(0) = 1", "sumLeft(0) = 1");
        run("bound(179)", "strikeTo(99999) = 40", "left(0) = 2", "sumLeft(0) = 180");
        run("bound(99999)", "strikeTo(99999) = 40", "left(630) = 1", "sumLeft(630) = 1", "wouldStrike(630) = 0");
    }

    @Sentence("STRIKING: A prime is a number of 2 or more that only 1 and itself divide.")
    void aPrimeIs2OrMore() {
        run("primes(0) = 0", "primes(1) = 0", "primes(2) = 1", "prime(1) = 2", "inSpan(0, 1) = 0", "inSpan(2, 2) = 1");
        run("inSpan(3, 3) = 1", "inSpan(4, 4) = 0", "inSpan(9, 9) = 0", "inSpan(25, 25) = 0", "inSpan(91, 91) = 0");
        run("inSpan(97969, 97969) = 0", "inSpan(97967, 97967) = 1", "inSpan(97968, 97970) = 0", "inSpan(97971, 97971) = 0",
                "inSpan(97973, 97973) = 1");
    }

    @Sentence("STRIKING: At first none has come.")
    void atFirstNoneHasCome() {
        run("about(2) = 0", "about(3) = 0", "about(4) = 100", "about(5) = 2", "about(6) = NONE", "came(0) = 0");
        run("again() = 0");
    }

    @Sentence("STRIKING: At most 40 primes come, ..")
    void atMost40PrimesCome() {
        run("bound(99999)", "39* strike()", "about(5) = 173", "wouldStrike(0) = 68", "strike() = 68", "about(5) = NONE",
                "wouldStrike(0) = 0", "strike() !state", "spare() !state", "strikeTo(99999) = 0", "about(2) = 40",
                "came(39) = 173", "came(40) = 0");
        run("bound(99999)", "39* spare()", "spare() = 173", "spare() !state", "strike() !state", "about(3) = 40");
        run("bound(99999)", "strikeTo(99999) = 40", "about(6) = 173");
        run("bound(179)", "40* spare()", "about(5) = NONE", "spare() !state");
        run("write(bound179,strike9,strike9,spare9,strike9,spare4)", "load() = 0", "about(5) = NONE", "about(3) = 13");
        run("write(bound179,strike9,strike9,spare9,strike9,spare5)", "load() = 1", "about(3) = 13", "about(6) = 173");
        run("bound(99999)", "39* spare()", "runScript(1, 200000) = NONE", "runScript(2, 200000200000) = 1",
                "runScript(2, 300000300000) = 1", "runScript(2, 300000400179) = NONE");
    }

    @Sentence("STRIKING: .. and none above the bound.")
    void noPrimeAboveTheBoundComes() {
        run("bound(1)", "about(5) = NONE", "strike() !state", "spare() !state", "strikeTo(99999) = 0");
        run("bound(2)", "about(5) = 2", "strike() = 1", "about(5) = NONE", "strike() !state", "spare() !state");
        run("bound(172)", "39* spare()", "about(5) = NONE", "wouldStrike(0) = 0", "strike() !state", "spare() !state");
        run("bound(173)", "39* spare()", "about(5) = 173", "wouldStrike(0) = 1", "strike() = 1", "about(5) = NONE");
        run("bound(10)", "strikeTo(99999) = 4", "about(6) = 7");
        run("bound(11)", "strikeTo(99999) = 5", "about(6) = 11");
        run("write(bound10,spare5)", "load() = 1", "about(6) = 7");
        run("write(bound11,spare5)", "load() = 0", "about(6) = 11");
    }

    // ---- QUOTIENTS

    @Sentence("QUOTIENTS: A quotient is n divided by some whole number from 1 to n, rounded down.")
    void aQuotientIsNDividedBy1ToN() {
        run("bound(7)", "quotient(0) = 7", "quotient(1) = 3", "quotient(2) = 2", "quotient(3) = 1", "quotient(4) !index",
                "quotientOf(8) = NONE", "quotientOf(4) = NONE", "quotientOf(1) = 3", "quotientOf(0) = NONE");
        run("bound(1)", "quotient(0) = 1", "quotient(1) !index", "quotientOf(0) = NONE", "quotientOf(1) = 0",
                "quotientOf(2) = NONE");
        run("bound(99999)", "quotient(0) = 99999", "quotient(1) = 49999", "quotient(629) = 2", "quotient(630) = 1",
                "quotient(631) !index");
    }

    @Sentence("QUOTIENTS: The unlike quotients are numbered from 0, the greatest one (n) first.")
    void unlikeQuotientsAreNumberedFrom0() {
        run("bound(3)", "about(1) = 2", "quotient(0) = 3", "quotient(1) = 1", "quotient(2) !index");
        run("bound(4)", "about(1) = 3", "quotient(0) = 4", "quotient(1) = 2", "quotient(2) = 1", "quotient(3) !index");
        run("bound(5)", "about(1) = 3", "quotient(0) = 5", "quotient(1) = 2", "quotient(2) = 1", "quotient(-1) !index");
        run("bound(6)", "about(1) = 4", "quotient(0) = 6", "quotient(1) = 3", "quotient(2) = 2", "quotient(3) = 1");
        for (int n = 1; n <= 130; n++) {
            everyQuotient(n);
        }
        for (int n : new int[] {99855, 99856, 99857, 99998, 99999}) {
            run("bound(" + n + ")", "about(1) = " + quotientsOf(n).size());
        }
    }

    private static List<Integer> quotientsOf(int n) {
        TreeSet<Integer> unlike = new TreeSet<>();
        for (int divisor = 1; divisor <= n; divisor++) {
            unlike.add(n / divisor);
        }
        return new ArrayList<>(unlike.descendingSet());
    }

    private void everyQuotient(int n) {
        List<Integer> quotients = quotientsOf(n);
        List<String> rows = new ArrayList<>(List.of("bound(" + n + ")", "1* about(1) = " + quotients.size()));
        for (int q = 0; q < quotients.size(); q++) {
            rows.add("1* quotient(" + q + ") = " + quotients.get(q));
        }
        for (int v = 0; v <= n + 1; v++) {
            rows.add("1* quotientOf(" + v + ") = " + quotients.indexOf(v));
        }
        run(rows);
    }

    @Sentence("QUOTIENTS: What is asked of a quotient v is asked of the numbers from 1 to v.")
    void aQuotientStandsForTheNumbersFrom1ToIt() {
        run("bound(20)", "spare()", "strike()", "quotient(2) = 6", "left(2) = 4", "sumLeft(2) = 12", "restLeft(2, 2) = 1",
                "quotient(5) = 3", "left(5) = 2", "sumLeft(5) = 3", "restLeft(5, 3) = 0", "left(7) = 1");
        run("bound(20)", "spare()", "spare()", "quotient(3) = 5", "wouldStrike(3) = 1", "quotient(4) = 4",
                "wouldStrike(4) = 0", "quotient(1) = 10", "wouldStrike(1) = 2", "wouldStrike(0) = 4");
    }

    // ---- TEXT

    @Sentence("TEXT: The object has a text buffer of at most 60 characters.")
    void theTextHasAtMost60Characters() {
        run("59* append(97)", "append(97) = 60", "append(97) !state", "clearText() = 60", "append(97) = 1");
        run("write(again,again,again,again,again,again,again,again,again,strike)", "errorPosition() = NONE", "load() = 0",
                "append(44) !state", "append(50) !state", "about(2) = 1", "clearText() = 60");
        text("again,again,again,again,again,again,again,again,again,spare2", NONE);
        text("again,again,again,again,again,again,again,again,again,spare,", 60);
        text("again,again,again,again,again,again,again,again,strike,bound", 60);
        text("again,again,again,again,again,again,again,again,strike,bounx", 59);
    }

    @Sentence("TEXT: A table as a text is one or more words with a comma between them: ..")
    void aTableIsOneOrMoreWordsWithCommas() {
        text("", 0);
        text("again", NONE);
        text("again,strike", NONE);
        text("strike,again,bound5,spare9,strike2,spare", NONE);
        text(",", 0);
        text(",again", 0);
        text("again,", 6);
        text("again,,again", 6);
        text("bound5,,", 7);
        text("againagain", 5);
        text("again;again", 5);
        text("again.again", 5);
        text("strike5strike", 7);
    }

    @Sentence("TEXT: .. \"bound\", with a number behind it, 1 to 99999; ..")
    void behindBoundIsANumber1To99999() {
        text("bound1", NONE);
        text("bound2", NONE);
        text("bound9", NONE);
        text("bound10", NONE);
        text("bound99998", NONE);
        text("bound99999", NONE);
        text("bound0", 5);
        text("bound100000", 10);
        text("bound999999", 10);
        text("bound", 5);
        text("bound,bound5", 5);
        text("bound-5", 5);
        run("write(bound1)", "load() = 0", "about(0) = 1");
        run("write(bound99999)", "load() = 0", "about(0) = 99999");
    }

    @Sentence("TEXT: .. \"strike\" or \"spare\", perhaps with a number behind it, 2 to 9: ..")
    void behindStrikeOrSpareMayBeANumber2To9() {
        for (int number = 2; number <= 9; number++) {
            text("strike" + number, NONE);
            text("spare" + number, NONE);
            text("again,strike" + number + ",again", NONE);
        }
        for (String behind : new String[] {"0", "1", "10", "12", "19"}) {
            text("strike" + behind, 6);
            text("spare" + behind, 5);
        }
        text("strike20", 7);
        text("strike99", 7);
        text("spare20", 6);
        text("spare90", 6);
    }

    @Sentence("TEXT: .. so many primes, one if there is no number; ..")
    void soManyPrimesOneWithoutANumber() {
        run("write(strike)", "load() = 0", "about(2) = 1", "about(3) = 0");
        run("write(spare)", "load() = 0", "about(2) = 0", "about(3) = 1");
        run("write(strike2)", "load() = 0", "about(2) = 2", "about(6) = 3");
        run("write(spare2)", "load() = 0", "about(3) = 2", "about(6) = 3");
        run("write(strike9)", "load() = 0", "about(2) = 9", "about(6) = 23");
        run("write(spare9)", "load() = 0", "about(3) = 9", "about(6) = 23");
        run("write(spare9,strike)", "load() = 0", "about(3) = 9", "about(2) = 1", "came(9) = 29");
    }

    @Sentence("TEXT: .. \"again\": the primes that came so far are as if none had come.")
    void againInATextBeginsAgain() {
        run("write(again)", "load() = 0", "about(6) = NONE", "about(4) = 100", "about(0) = 100");
        run("write(bound30,strike3,again)", "load() = 0", "about(0) = 30", "about(2) = 0", "about(4) = 30", "about(6) = NONE");
        run("write(bound30,strike3,again,spare2,strike)", "load() = 0", "came(0) = -2", "came(1) = -3", "came(2) = 5",
                "came(3) = 0", "about(4) = 24");
        text("again0", 5);
        text("again1", 5);
        text("again2", 5);
    }

    @Sentence("TEXT: Numbers have no zeros ahead.")
    void numbersHaveNoZerosAhead() {
        text("bound01", 5);
        text("bound00005", 5);
        text("bound000005", 5);
        text("strike02", 6);
        text("spare09", 5);
        text("bound10", NONE);
        text("bound10005", NONE);
        text("bound90000", NONE);
    }

    @Sentence("TEXT: There are no blanks.")
    void thereAreNoBlanks() {
        text(" ", 0);
        text(" again", 0);
        text("again ", 5);
        text("again, again", 6);
        text("again ,again", 5);
        text("bound 5", 5);
        text("bound5 ", 6);
        text("bound5 0", 6);
        text("str ike", 3);
        text("strike 2", 6);
        text("again\t", 5);
        text("again\n", 5);
    }

    @Sentence("TEXT: The text is read from left to right.")
    void theTextIsReadFromLeftToRight() {
        run("write(strike,bound5,spare)", "load() = 0", "about(0) = 5", "about(2) = 0", "about(3) = 1");
        run("write(bound5,spare,strike)", "load() = 0", "came(0) = -2", "came(1) = 3");
        run("write(bound5,bound7)", "load() = 0", "about(0) = 7");
        run("write(bound2,strike3,bound5,strike)", "load() = 2", "about(2) = 1");
    }

    @Sentence("TEXT: The error position is the index of the first character that these rules do not allow at its place ..")
    void theErrorPositionIsThatOfTheFirstSuchCharacter() {
        text("x", 0);
        text("xx", 0);
        text("again,x,y", 6);
        text("strike0,spare0", 6);
        text("again!again!", 5);
        text("bound5,strike9,spare2,agaim,,", 26);
        text("again\u0000", 5);
        text("again\u00ff", 5);
        text("\u0000again", 0);
        text("\u00e9", 0);
    }

    @Sentence("TEXT: .. a letter .. is not allowed if no word .. begins with it and those before it ..")
    void aLetterIsNotAllowedIfNoWordBeginsSo() {
        text("c", 0);
        text("bo", 2);
        text("bp", 1);
        text("so", 1);
        text("sp", 2);
        text("st", 2);
        text("spr", 2);
        text("sta", 2);
        text("stare", 2);
        text("spike", 2);
        text("strika", 5);
        text("spark", 4);
        text("agains", 5);
        text("bounds", 5);
        text("strikes", 6);
        text("spares", 5);
        text("bound5a", 6);
        text("bound99999a", 10);
        text("strike2s", 7);
        text("Bound5", 0);
        text("AGAIN", 0);
        text("strikE", 5);
        text("again,Strike", 6);
    }

    @Sentence("TEXT: .. or a digit is not allowed if no word, or no number in its range, begins with it and those before it")
    void aDigitIsNotAllowedIfNoNumberInItsRangeBeginsSo() {
        text("1", 0);
        text("b1", 1);
        text("boun5", 4);
        text("strik2", 5);
        text("again5", 5);
        text("again,5", 6);
        text("bound0,again", 5);
        text("bound10000", NONE);
        text("bound100000,again", 10);
        text("bound999990", 10);
        text("strike1,again", 6);
        text("strike21", 7);
        text("spare99,again", 6);
    }

    @Sentence("TEXT: .. if the text ends too soon, it is the length of the text.")
    void ifTheTextEndsTooSoonItIsItsLength() {
        text("", 0);
        for (String table : new String[] {"bound5", "strike", "spare", "again", "bound5,strike", "spare3,again"}) {
            for (int length = 0; length < table.length(); length++) {
                String start = table.substring(0, length);
                text(start, List.of("bound5", "spare", "spare3").contains(start) ? NONE : length);
            }
            text(table, NONE);
            text(table + ",", table.length() + 1);
        }
    }

    // ---- ACTIONS AND UNDO

    @Sentence("ACTIONS AND UNDO: The methods in the section \"actions\" change the state, which consists of everything"
            + " but the text and the save slots.")
    void theStateIsAllButTextAndSlots() {
        run("write(again)", "strike()", "write(,sp)", "undo() = 0", "clearText() = 8");
        run("write(again)", "strike()", "clearText() = 5", "undo() = 0", "errorPosition() = 0", "clearText() = 0");
        run("strike()", "save(0) = 100", "undo() = 0", "about(2) = 0", "restore(0) = 100", "about(2) = 1");
        run("save(1) = 100", "bound(7)", "save(1) = 7", "undo() = 0", "about(0) = 100", "restore(1) = 7", "restore(0) !state");
    }

    @Sentence("ACTIONS AND UNDO: Each call of one of them that does not throw an exception is an action, ..")
    void eachCallThatDoesNotThrowIsAnAction() {
        for (String action : new String[] {"bound(7)", "strike()", "spare()", "strikeTo(7)", "again()"}) {
            run("undo() !state", "spare()", action, "undo() = 1", "about(0) = 100", "about(3) = 1", "came(1) = 0",
                    "undo() = 0", "about(3) = 0", "undo() !state");
        }
        for (String refused : new String[] {"bound(0)", "bound(100000)", "strikeTo(-1)", "strikeTo(100000)"}) {
            run(refused + " !argument", "undo() !state", "strike()", refused + " !argument", "undo() = 0");
        }
        run("bound(2)", "spare()", "strike() !state", "spare() !state", "undo() = 1", "about(3) = 0", "about(0) = 2");
    }

    @Sentence("ACTIONS AND UNDO: .. also if nothing becomes different ..")
    void alsoIfNothingBecomesDifferent() {
        run("strikeTo(0) = 0", "undo() = 0", "undo() !state");
        run("strikeTo(1) = 0", "undo() = 0", "undo() !state");
        run("again() = 0", "undo() = 0", "undo() !state");
        run("bound(100) = 100", "undo() = 0", "undo() !state");
        run("bound(1)", "strikeTo(99999) = 0", "undo() = 1", "undo() = 0");
        run("bound(99999)", "strikeTo(99999) = 40", "strikeTo(99999) = 0", "undo() = 2", "about(2) = 40", "undo() = 1",
                "about(2) = 0");
    }

    @Sentence("ACTIONS AND UNDO: .. (undo is none).")
    void undoIsNoAction() {
        run("strike()", "undo() = 0", "undo() !state");
        run("strike()", "spare()", "undo() = 1", "about(6) = 2", "undo() = 0", "about(6) = NONE", "undo() !state");
        run("strike()", "undo() = 0", "spare()", "undo() = 0", "about(6) = NONE", "undo() !state");
    }

    @Sentence("ACTIONS AND UNDO: Before each action, the state is remembered.")
    void beforeEachActionTheStateIsRemembered() {
        run("strike()", "spare()", "strikeTo(20)", "again()", "bound(60)",
                "undo() = 4", "about(0) = 100", "about(6) = NONE",
                "undo() = 3", "about(2) = 7", "about(3) = 1", "about(6) = 19",
                "undo() = 2", "about(2) = 1", "about(6) = 3",
                "undo() = 1", "about(3) = 0", "about(4) = 50",
                "undo() = 0", "about(2) = 0", "about(4) = 100");
    }

    @Sentence("ACTIONS AND UNDO: At most 14 states are remembered; ..")
    void atMost14StatesAreRemembered() {
        run("13* strike()", "undo() = 12", "12* undo()", "about(6) = NONE", "undo() !state");
        run("14* strike()", "undo() = 13", "13* undo()", "about(6) = NONE", "undo() !state");
        run("15* strike()", "undo() = 13", "13* undo()", "about(6) = 2", "undo() !state");
        run("200* again()", "undo() = 13", "13* undo()", "undo() !state");
    }

    @Sentence("ACTIONS AND UNDO: .. when one more is remembered, the oldest one is forgotten.")
    void theOldestStateIsForgotten() {
        for (int actions : new int[] {1, 13, 14, 15, 16, 27, 28, 29, 30, 43}) {
            List<String> rows = new ArrayList<>();
            for (int n = 1; n <= actions; n++) {
                rows.add("bound(" + n + ")");
            }
            int remembered = Math.min(14, actions);
            for (int undone = 1; undone <= remembered; undone++) {
                rows.add("undo() = " + (remembered - undone));
                rows.add("about(0) = " + (undone == actions ? 100 : actions - undone));
            }
            rows.add("undo() !state");
            run(rows);
        }
        for (String action : new String[] {"bound(7)", "strike()", "spare()", "strikeTo(0)", "again()"}) {
            run("bound(50)", "bound(40)", "12* again()", action, "13* undo()", "undo() = 0", "about(0) = 50", "undo() !state");
        }
    }

    /** Also where undo came between. */
    @Sentence("ACTIONS AND UNDO: At most 14 states are remembered; when one more is remembered, the oldest one is forgotten.")
    void undoMakesRoomForStates() {
        run("14* strike()", "3* undo()", "about(6) = 31", "3* spare()", "undo() = 13", "13* undo()", "about(6) = NONE",
                "undo() !state");
        run("14* strike()", "3* undo()", "4* spare()", "undo() = 13", "13* undo()", "about(6) = 2", "undo() !state");
        run("14* strike()", "14* undo()", "15* spare()", "undo() = 13", "13* undo()", "about(6) = 2", "undo() !state");
    }

    @Sentence("ACTIONS AND UNDO: load and restore are not actions.")
    void loadAndRestoreAreNoActions() {
        run("write(bound7)", "load() = 0", "undo() !state", "strike() = 3", "undo() = 0", "about(0) = 7", "undo() !state");
        run("save(0)", "bound(7)", "restore(0) = 100", "undo() !state", "strike() = 50", "undo() = 0", "about(0) = 100",
                "undo() !state");
    }

    /** And so no others are. */
    @Sentence("ACTIONS AND UNDO: Each call of one of them .. is an action")
    void theOtherMethodsAreNoActions() {
        run("strike()", "append(97)", "errorPosition()", "clearText()", "about(0)", "quotient(0)", "quotientOf(1)", "left(0)",
                "sumLeft(0)", "restLeft(0, 0)", "came(0)", "wouldStrike(0)", "primes(5)", "sumOf(5)", "inSpan(1, 5)",
                "byRest(5, 1)", "prime(5)", "leastFactor(5)", "withLeast(5, 5)", "twoFactors(5)", "runScript(1, 200000)",
                "simulate(1, 60)", "save(0)", "undo() = 0", "about(2) = 0", "undo() !state");
    }

    // ---- EXCEPTIONS

    @Sentence("EXCEPTIONS: IndexOutOfBoundsException means that a quotient does not exist, ..")
    void aQuotientDoesNotExist() {
        for (String call : new String[] {"quotient(#)", "left(#)", "sumLeft(#)", "restLeft(#, 0)", "wouldStrike(#)"}) {
            int[][] sizes = {{1, 1}, {2, 2}, {100, 19}, {99999, 631}};
            for (int[] size : sizes) {
                run("bound(" + size[0] + ")", call.replace("#", "0"), call.replace("#", "" + (size[1] - 1)),
                        call.replace("#", "" + size[1]) + " !index", call.replace("#", "-1") + " !index",
                        call.replace("#", "min") + " !index", call.replace("#", "max") + " !index");
            }
            run(call.replace("#", "18"), call.replace("#", "19") + " !index", "bound(10)", call.replace("#", "4"),
                    call.replace("#", "5") + " !index", call.replace("#", "18") + " !index", "undo()",
                    call.replace("#", "18"), call.replace("#", "19") + " !index");
        }
    }

    @Sentence("EXCEPTIONS: .. or that a save slot is not 0 or 1.")
    void aSaveSlotIsNot0Or1() {
        run("save(0) = 100", "save(1) = 100", "restore(0) = 100", "restore(1) = 100");
        argument("save", "index", of(0, 1), of(-1, 2, Integer.MIN_VALUE, Integer.MAX_VALUE), "strike()");
        argument("restore", "index", of(0, 1), of(-1, 2, Integer.MIN_VALUE, Integer.MAX_VALUE), "save(0)", "save(1)",
                "strike()");
    }

    @Sentence("EXCEPTIONS: IllegalArgumentException means that another argument is out of its range.")
    void anotherArgumentIsOutOfItsRange() {
        for (String call : new String[] {
            "append(#)", "about(#)", "restLeft(0, #)", "bound(#)", "strikeTo(#)", "primes(#)", "sumOf(#)", "inSpan(#, 99999)",
            "inSpan(99999, #)", "byRest(#, 1)", "byRest(5, #)", "prime(#)", "leastFactor(#)", "withLeast(#, 2)",
            "withLeast(5, #)", "twoFactors(#)", "runScript(#, 200000)", "runScript(1, #)", "simulate(1, #)"
        }) {
            for (String value : new String[] {"-1", "min", "max", "100000000"}) {
                run("bound(30)", "strike()", call.replace("#", value) + " !argument");
            }
        }
        run("came(-1) !argument", "came(min) !argument");
    }

    @Sentence("EXCEPTIONS: IllegalStateException means what the method says.")
    void illegalStateMeansWhatTheMethodSays() {
        run("60* append(97)", "append(97) !state", "clearText()", "append(97) = 1");
        run("write(bound)", "load() !state", "append(57)", "load() = 0");
        run("bound(2)", "spare()", "strike() !state", "spare() !state", "again()", "spare() = 2", "strike() !state");
        run("bound(2)", "strike()", "spare() !state", "strike() !state", "undo()", "strike() = 1", "spare() !state");
        run("undo() !state", "again()", "undo() = 0", "undo() !state");
        run("restore(1) !state", "save(1)", "restore(1) = 100", "restore(0) !state");
    }

    @Sentence("EXCEPTIONS: If several exceptions apply to a call, the one that its description names first is thrown.")
    void theExceptionNamedFirstIsThrown() {
        run("60* append(97)", "append(97) !state", "append(256) !argument", "append(-1) !argument", "append(min) !argument",
                "append(max) !argument");
        run("restLeft(18, 4) !argument", "restLeft(19, 3) !index", "restLeft(19, 4) !index", "restLeft(-1, -1) !index",
                "restLeft(min, max) !index", "restLeft(max, min) !index");
        run("restore(0) !state", "restore(1) !state", "restore(2) !index", "restore(-1) !index", "restore(max) !index");
    }

    @Sentence("EXCEPTIONS: A call that throws an exception changes nothing.")
    void aCallThatThrowsChangesNothing() {
        // Run looks behind every refused row by itself; here much is there that could be lost.
        for (String refused : new String[] {
            "append(-1) !argument", "append(256) !argument", "append(97) !state", "load() !state", "about(7) !argument",
            "quotient(3) !index", "left(3) !index", "sumLeft(3) !index", "restLeft(3, 0) !index",
            "restLeft(0, 4) !argument", "came(-1) !argument", "bound(0) !argument", "bound(100000) !argument",
            "strike() !state", "spare() !state", "strikeTo(-1) !argument", "strikeTo(100000) !argument",
            "wouldStrike(3) !index", "primes(-1) !argument", "sumOf(100000) !argument", "inSpan(5, 4) !argument",
            "byRest(5, 4) !argument", "prime(0) !argument", "leastFactor(1) !argument", "withLeast(0, 2) !argument",
            "withLeast(5, 1) !argument", "twoFactors(-1) !argument", "runScript(0, 0) !argument",
            "runScript(1, 1000000) !argument", "simulate(0, 0) !argument", "simulate(0, 61) !argument", "save(2) !index",
            "save(-1) !index", "restore(2) !index", "restore(-1) !index", "restore(1) !state"
        }) {
            run("save(0)", "write(again,again,again,again,again,again,again,again,again,spare0)", "20* again()", "bound(5)",
                    "spare()", "strike()", "spare()", refused, "undo() = 13");
        }
        run("undo() !state");
        run("save(0)", "save(1)", "write(strike,bound9)", "undo() !state");
        run("save(0)", "save(1)", "14* spare()", "load() !state", "restore(0) = 100");
    }
}
