import java.util.ArrayList;
import java.util.List;

/** The sentences of the promises 28 to 31 that name a boundary: scripts, simulations, save slots. */
public final class CopyTests extends Sentences {
    private static final String[] AFTER_2_AND_3 = {"strike()", "spare()"};

    public static void main(String[] args) {
        new CopyTests().runAll(args);
    }

    /** Runs scripts of one command when 2 struck and 3 was spared, so that 50 of 100 are left. */
    private void commands(int answer, int... commands) {
        for (int command : commands) {
            run(AFTER_2_AND_3[0], AFTER_2_AND_3[1], "runScript(1, " + command + ") = " + answer);
        }
    }

    /** Runs a script on a new object behind other calls. */
    private void script(int n, String script, int answer, String... before) {
        List<String> rows = new ArrayList<>(List.of(before));
        rows.add("runScript(" + n + ", " + script + ") = " + answer);
        run(rows);
    }

    // ---- runScript

    @Sentence("28: Runs a script on a copy of the state.")
    void aScriptRunsOnACopy() {
        run("bound(30)", "strike()", "spare()", "runScript(3, 100007200000400007) = NONE", "about(0) = 30", "about(2) = 1",
                "about(3) = 1", "about(4) = 15", "runScript(2, 200000900005) = NONE", "runScript(2, 200000900005) = NONE",
                "came(2) = 0", "undo() = 2", "about(6) = 2", "runScript(1, 500000) = NONE", "about(6) = 2");
        script(1, "900002", NONE, "strike()");
        script(1, "900002", 0, "strike()", "undo()");
    }

    @Sentence("28: A script has 1 to 3 commands; .. Throws IllegalArgumentException if n is out of range, ..")
    void aScriptHas1To3Commands() {
        run("runScript(1, 200000) = NONE", "runScript(2, 200000200000) = NONE", "runScript(3, 200000200000200000) = NONE");
        for (String n : new String[] {"0", "-1", "4", "min", "max"}) {
            run("strike()", "runScript(" + n + ", 0) !argument", "runScript(" + n + ", 200000) !argument",
                    "runScript(" + n + ", -1) !argument", "runScript(" + n + ", max) !argument");
        }
    }

    @Sentence("28: script: the commands, a number of at most 6 * n digits (0 or more). Throws IllegalArgumentException .."
            + " if script is negative or has more than 6 * n digits")
    void aScriptHasAtMost6DigitsForEachCommand() {
        run("runScript(1, 0) = 0", "runScript(2, 0) = 0", "runScript(3, 0) = 0");
        run("runScript(1, 999999) = 0", "runScript(1, 1000000) !argument", "runScript(1, 200000200000) !argument");
        run("runScript(2, 999999999999) = 0", "runScript(2, 1000000000000) !argument",
                "runScript(2, 200000200000200000) !argument");
        run("runScript(3, 999999999999999999) = 0", "runScript(3, 1000000000000000000) !argument");
        for (int n = 1; n <= 3; n++) {
            run("runScript(" + n + ", -1) !argument", "runScript(" + n + ", -200000) !argument",
                    "runScript(" + n + ", max) !argument", "runScript(" + n + ", min) !argument");
        }
    }

    @Sentence("28: .. the first command is the highest group of the number (with zeros before it, if it has fewer digits).")
    void theFirstCommandIsTheHighestGroup() {
        script(2, "200000900002", NONE);
        script(2, "900002200000", 0);
        script(3, "200000300000900002", NONE);
        script(3, "200000300000900003", 2);
        script(2, "200000", 0);
        script(3, "200000200000", 0);
        script(2, "99999200000", 0);
        script(1, "99999", 0);
        script(1, "1", 0);
    }

    @Sentence("28: 1 n n n n n: bound(nnnnn). The commands 1 to 5 fail if the method would throw an exception; ..")
    void command1Bounds() {
        commands(NONE, 100001, 100002, 199998, 199999);
        commands(0, 100000);
        script(3, "100009600009700009", NONE, AFTER_2_AND_3);
        script(3, "100100800100600100", NONE, AFTER_2_AND_3);
        script(2, "100001200000", 1);
        script(2, "100002200000", NONE);
        script(2, "100100900002", 1, AFTER_2_AND_3);
        script(2, "199999600000", NONE);
        script(2, "199999799999", NONE);
        script(2, "199999799998", 1);
    }

    @Sentence("28: 2 0 0 0 0 0: strike(). ..")
    void command2Strikes() {
        commands(NONE, 200000);
        commands(0, 200001, 200010, 200100, 201000, 210000, 200009, 290000, 299999);
        script(1, "200000", 0, "bound(1)");
        script(2, "200000200000", 1, "bound(2)");
        script(2, "200000200000", NONE, "bound(3)");
        script(1, "200000", NONE, "bound(99999)", "39* spare()");
        script(2, "200000200000", 1, "bound(99999)", "39* spare()");
        script(1, "200000", 0, "bound(99999)", "40* spare()");
        script(3, "200000700050600050", NONE);
    }

    @Sentence("28: 3 0 0 0 0 0: spare(). ..")
    void command3Spares() {
        commands(NONE, 300000);
        commands(0, 300001, 300010, 300100, 301000, 310000, 300009, 390000, 399999);
        script(1, "300000", 0, "bound(1)");
        script(2, "300000300000", 1, "bound(2)");
        script(2, "300000300000", NONE, "bound(3)");
        script(1, "300000", NONE, "bound(99999)", "39* strike()");
        script(2, "300000300000", 1, "bound(99999)", "39* strike()");
        script(1, "300000", 0, "bound(99999)", "40* strike()");
        script(2, "300000600100", NONE);
        script(2, "300000900002", 1);
    }

    @Sentence("28: 4 m m m m m: strikeTo(mmmmm). ..")
    void command4StrikesTo() {
        commands(NONE, 400000, 400001, 400100, 499998, 499999);
        script(2, "400000600100", NONE);
        script(2, "400001600100", NONE);
        script(2, "400002600051", 1);
        script(2, "400002600050", NONE);
        script(2, "400004900005", 1);
        script(2, "400005900005", NONE);
        script(2, "499999700001", NONE);
        script(2, "499999600002", 1);
        script(1, "499999", NONE, "bound(1)");
        script(1, "499999", NONE, "bound(99999)", "40* spare()");
        script(2, "499999900173", NONE, "bound(99999)", "39* spare()");
        script(2, "499999900173", 1, "bound(99999)", "40* spare()");
    }

    @Sentence("28: 5 0 0 0 0 0: again(). ..")
    void command5BeginsAgain() {
        commands(NONE, 500000);
        commands(0, 500001, 500010, 500100, 501000, 510000, 500009, 590000, 599999);
        script(1, "500000", NONE);
        script(2, "500000600100", NONE, AFTER_2_AND_3);
        script(2, "500000900002", 1, AFTER_2_AND_3);
        script(3, "500000200000900002", NONE, "bound(7)", "4* spare()");
        script(2, "500000700007", NONE, "bound(7)", "strike()");
    }

    @Sentence("28: 6 x x x x x: succeeds if at least xxxxx numbers from 1 to n are left. ..")
    void command6AtLeast() {
        commands(NONE, 600000, 600001, 600049, 600050);
        commands(0, 600051, 600100, 699999);
        script(1, "600001", NONE, "bound(1)");
        script(1, "600002", 0, "bound(1)");
        script(1, "699999", NONE, "bound(99999)");
        script(1, "699999", 0, "bound(99998)");
    }

    @Sentence("28: 7 x x x x x: succeeds if at most xxxxx numbers from 1 to n are left. ..")
    void command7AtMost() {
        commands(NONE, 700050, 700051, 700100, 799999);
        commands(0, 700049, 700001, 700000);
        script(1, "700001", NONE, "bound(1)");
        script(1, "700000", 0, "bound(1)");
        script(1, "799999", NONE, "bound(99999)");
        script(1, "799998", 0, "bound(99999)");
    }

    @Sentence("28: 8 v v v v v: succeeds if vvvvv is a quotient. ..")
    void command8IsAQuotient() {
        commands(NONE, 800100, 800050, 800033, 800014, 800012, 800010, 800001);
        commands(0, 800000, 800101, 800099, 800051, 800049, 800013, 800015, 899999);
        script(1, "899999", NONE, "bound(99999)");
        script(1, "899998", 0, "bound(99999)");
        script(1, "800001", NONE, "bound(1)");
        script(1, "800002", 0, "bound(1)");
        script(2, "100007800003", NONE);
        script(2, "100007800100", 1);
    }

    @Sentence("28: 9 p p p p p: succeeds if the prime ppppp came, and struck.")
    void command9CameAndStruck() {
        commands(NONE, 900002);
        commands(0, 900000, 900001, 900003, 900004, 900005, 999999, 999991);
        script(1, "900002", 0);
        script(1, "900097", NONE, "strikeTo(97)");
        script(1, "900096", 0, "strikeTo(97)");
        script(1, "900097", 0, "strikeTo(96)");
        script(1, "900101", 0, "strikeTo(99999)");
        script(1, "900173", NONE, "bound(99999)", "39* spare()", "strike()");
        script(1, "900173", 0, "bound(99999)", "39* strike()", "spare()");
        script(1, "900167", 0, "bound(99999)", "39* spare()", "strike()");
        script(1, "900179", 0, "bound(99999)", "40* strike()");
        script(1, "900002", 0, "strike()", "again()");
    }

    @Sentence("28: .. and so does any other group (also one with another digit where a 0 is written).")
    void anyOtherGroupFails() {
        commands(0, 0, 1, 9, 10, 2, 3, 50000, 90000, 99999, 20000, 12345);
        script(2, "200000000000", 1);
        script(2, "200000099999", 1);
        script(3, "200000300000000002", 2);
    }

    @Sentence("28: nnnnn and the like are decimal numbers.")
    void theNumbersOfCommandsAreDecimal() {
        script(2, "100010800010", NONE);
        script(2, "100010800008", 1);
        script(2, "100100600100", NONE);
        script(2, "100100700099", 1);
        script(2, "100011400011", NONE);
        script(3, "100011400011900011", NONE);
        script(3, "100011400010900011", 2);
        script(2, "190909890909", NONE);
    }

    @Sentence("28: Returns the index, from 0, of the first command that fails; NONE if all succeed.")
    void theIndexOfTheFirstCommandThatFails() {
        script(1, "600100", NONE);
        script(1, "600101", 0);
        script(2, "600100600100", NONE);
        script(2, "600101600100", 0);
        script(2, "600100600101", 1);
        script(2, "600101600101", 0);
        script(3, "600100600100600100", NONE);
        script(3, "600101600100600100", 0);
        script(3, "600100600101600101", 1);
        script(3, "600100600100600101", 2);
        script(3, "200001200000900002", 0);
    }

    // ---- simulate

    /** A seed whose first turn has 0, 1 and so on as r % 8, the bound 1 and the greatest one. */
    private static final String BOUND_1 = "-7379792620528906219";
    private static final String BOUND_3000 = "5077813966308331541";
    private static final String AGAIN = "-84997745826115563";
    private static final String SPARE_2 = "7209797128876675093";
    private static final String SPARE_3 = "-3942152070130085867";
    private static final String[] STRIKES = {
        "3352642804572704789", "-7799306394434056171", "-504511519731265515", "6790283354971525141"
    };

    @Sentence("29: m: number of turns, 1 to 60. Throws IllegalArgumentException if m is out of range")
    void simulateTakes1To60Turns() {
        for (String seed : new String[] {"0", "min", "max", "-1", AGAIN}) {
            run("strike()", "simulate(" + seed + ", 1)", "simulate(" + seed + ", 60)", "simulate(" + seed + ", 0) !argument",
                    "simulate(" + seed + ", 61) !argument", "simulate(" + seed + ", -1) !argument",
                    "simulate(" + seed + ", min) !argument", "simulate(" + seed + ", max) !argument");
        }
    }

    @Sentence("29: A long x starts as the seed (seed: any long). Each turn first replaces x .. (with long overflow) ..")
    void simulateTakesAnyLong() {
        run("simulate(0, 1) = 50", "simulate(0, 2) = 2554", "simulate(0, 59) = 1108", "simulate(0, 60) = 1108");
        run("simulate(1, 1) = 50", "simulate(1, 2) = 100", "simulate(1, 59) = 850", "simulate(1, 60) = 728");
        run("simulate(-1, 1) = 1062", "simulate(-1, 2) = 531", "simulate(-1, 59) = 554", "simulate(-1, 60) = 505");
        run("simulate(max, 1) = 334", "simulate(max, 2) = 167", "simulate(max, 59) = 33", "simulate(max, 60) = 30");
        run("simulate(min, 1) = 50", "simulate(min, 2) = 282", "simulate(min, 59) = 692", "simulate(min, 60) = 692");
    }

    @Sentence("29: .. and r = (int) (x >>> 33) is computed.")
    void theRestOfATurnIsTheUpper31Bits() {
        run("simulate(-7379792620528906219, 1) = 1", "simulate(4483922187169113968, 1) = 1");
        run("simulate(8048824676686974997, 1) = 1456", "simulate(1465795410675443568, 1) = 1456");
        run("simulate(1843579416325869589, 1) = 729", "simulate(-4739449849685661840, 1) = 729");
        run("simulate(3772156578477854741, 1) = 50", "simulate(-2810872687533676688, 1) = 50");
    }

    @Sentence("29: By r % 8: 0: bound(1 + r / 8 % 3000). ..")
    void turn0Bounds() {
        run("simulate(" + BOUND_1 + ", 1) = 1", "simulate(" + BOUND_3000 + ", 1) = 3000", "simulate(-4361665844035235819, 1) = 2",
                "simulate(8095940742802001941, 1) = 1");
        run("bound(99999)", "strikeTo(99999)", "simulate(" + BOUND_1 + ", 1) = 1", "simulate(" + BOUND_3000 + ", 1) = 3000",
                "simulate(-475, 2) = 1308");
    }

    @Sentence("29: 1: again(). ..")
    void turn1BeginsAgain() {
        run("simulate(" + AGAIN + ", 1) = 100", "strike()", "simulate(" + AGAIN + ", 1) = 100", "strikeTo(99999)",
                "simulate(" + AGAIN + ", 1) = 100", "simulate(-499, 2) = 50", "simulate(-452, 3) = 67");
        run("bound(1)", "simulate(" + AGAIN + ", 1) = 1");
        run("bound(99999)", "40* strike()", "simulate(" + AGAIN + ", 1) = 99999");
    }

    @Sentence("29: 2 and 3: spare(). ..")
    void turns2And3Spare() {
        run("simulate(" + SPARE_2 + ", 1) = 100", "simulate(" + SPARE_3 + ", 1) = 100", "simulate(-488, 2) = 67",
                "simulate(-489, 2) = 67", "strike()", "simulate(" + SPARE_2 + ", 1) = 50", "simulate(" + SPARE_3 + ", 1) = 50",
                "strike()", "simulate(-488, 2) = 28", "simulate(-489, 2) = 28");
    }

    @Sentence("29: Otherwise: strike().")
    void otherTurnsStrike() {
        for (String seed : STRIKES) {
            run("simulate(" + seed + ", 1) = 50", "strike()", "simulate(" + seed + ", 1) = 33", "spare()",
                    "simulate(" + seed + ", 1) = 40");
        }
        run("simulate(-395, 2) = 33", "simulate(-194, 3) = 26");
    }

    @Sentence("29: What would throw an exception is left out.")
    void whatWouldThrowIsLeftOut() {
        for (String seed : STRIKES) {
            run("bound(1)", "simulate(" + seed + ", 1) = 1", "bound(2)", "simulate(" + seed + ", 1) = 1");
            run("bound(99999)", "39* strike()", "simulate(" + seed + ", 1) = 10287", "strike()",
                    "simulate(" + seed + ", 1) = 10287");
            run("bound(99999)", "40* spare()", "simulate(" + seed + ", 1) = 99999");
        }
        for (String seed : new String[] {SPARE_2, SPARE_3}) {
            run("bound(1)", "simulate(" + seed + ", 1) = 1");
            run("bound(99999)", "39* strike()", "simulate(" + seed + ", 1) = 10355", "spare()", "simulate(" + seed + ", 1) = 10355");
        }
        // The turns behind one that is left out are made.
        run("bound(1)", "simulate(0, 2) = 2554", "simulate(1, 60) = 728", "bound(99999)", "40* strike()", "simulate(1, 2) = 99999",
                "simulate(-494, 2) = 99999");
        run("bound(1)", "simulate(-488, 2) = 1", "simulate(-475, 2) = 1308", "simulate(-194, 3) = 1");
        run("bound(2)", "simulate(-488, 2) = 2", "simulate(-395, 2) = 1");
        run("bound(99999)", "39* strike()", "simulate(-488, 2) = 10355", "simulate(-395, 2) = 10287");
    }

    @Sentence("29: Simulates m turns on a copy of the state. Returns how many numbers from 1 to n are left at the end.")
    void aSimulationRunsOnACopy() {
        run("bound(30)", "strike()", "spare()", "simulate(" + BOUND_3000 + ", 1) = 3000", "about(0) = 30", "simulate(-194, 3)",
                "about(2) = 1", "about(3) = 1", "simulate(" + AGAIN + ", 1) = 30", "about(6) = 3", "undo() = 2", "undo() = 1");
    }

    // ---- save slots

    @Sentence("30: Stores the present state in a save slot. Returns the bound.")
    void saveStoresThePresentState() {
        run("save(0) = 100", "bound(1)", "save(1) = 1", "bound(99999)", "save(0) = 99999", "restore(1) = 1", "restore(0) = 99999");
        run("bound(30)", "strike()", "spare()", "save(1) = 30", "strike()", "undo() = 3", "about(3) = 1", "restore(0) !state",
                "again()", "restore(1) = 30", "came(0) = 2", "came(1) = -3", "came(2) = 0", "about(4) = 15");
        run("bound(99999)", "40* strike()", "save(0) = 99999", "bound(1)", "restore(0) = 99999", "about(2) = 40",
                "about(4) = 10287", "about(5) = NONE");
        run("strike()", "save(0)", "undo() = 0", "about(2) = 0");
    }

    @Sentence("30: Throws IndexOutOfBoundsException if there is no such save slot")
    void saveInNoSlot() {
        argument("save", "index", of(0, 1), of(-1, 2, 3, Integer.MIN_VALUE, Integer.MAX_VALUE));
        argument("save", "index", of(0, 1), of(-1, 2, 3, 14, -14), "save(0)", "save(1)", "15* spare()", "bound(7)");
    }

    @Sentence("31: Replaces the state by the one in a save slot, and forgets all remembered states. Returns the bound then.")
    void restoreReplacesTheStateAndForgets() {
        run("bound(30)", "strike()", "save(0)", "bound(60)", "spare()", "restore(0) = 30", "about(0) = 30", "about(2) = 1",
                "about(3) = 0", "about(4) = 15", "undo() !state", "spare() = 3", "undo() = 0", "about(2) = 1");
        run("save(1)", "20* strike()", "restore(1) = 100", "about(6) = NONE", "undo() !state");
        run("bound(1)", "save(0)", "bound(99999)", "save(1)", "restore(0) = 1", "restore(1) = 99999");
        run("write(again)", "save(0)", "append(44)", "restore(0)", "clearText() = 6");
    }

    @Sentence("31: The save slot keeps it.")
    void theSaveSlotKeepsIt() {
        run("strike()", "save(0)", "restore(0) = 100", "again()", "restore(0) = 100", "about(2) = 1", "strike()", "bound(7)",
                "restore(0) = 100", "about(2) = 1", "about(4) = 50");
        run("bound(7)", "save(0)", "bound(8)", "save(1)", "restore(0) = 7", "restore(1) = 8", "restore(0) = 7",
                "restore(1) = 8");
        run("save(0)", "strike()", "restore(0)", "save(1)", "strike()", "restore(1) = 100", "about(2) = 0");
    }

    @Sentence("31: Throws IndexOutOfBoundsException if there is no such save slot")
    void restoreFromNoSlot() {
        argument("restore", "index", of(), of(-1, 2, 3, Integer.MIN_VALUE, Integer.MAX_VALUE));
        argument("restore", "index", of(0, 1), of(-1, 2, 3, 14, -14), "save(0)", "save(1)", "15* spare()", "bound(7)");
    }

    @Sentence("31: Throws IllegalStateException if nothing has been saved in it since the last load")
    void restoreOfNothing() {
        run("restore(0) !state", "restore(1) !state", "save(0)", "restore(1) !state", "restore(0) = 100");
        run("save(1)", "restore(0) !state", "restore(1) = 100", "restore(0) !state");
        run("save(0)", "save(1)", "write(again)", "load() = 0", "restore(0) !state", "restore(1) !state", "save(0)",
                "restore(0) = 100", "restore(1) !state");
        run("save(0)", "write(agai)", "load() !state", "restore(0) = 100", "append(110)", "load() = 0", "restore(0) !state");
        run("15* spare()", "write(bound9)", "load() = 0", "save(1) = 9", "load() = 0", "restore(1) !state");
        run("20* spare()", "restore(0) !state", "restore(1) !state", "undo() = 13");
    }
}
