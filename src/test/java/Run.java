import java.lang.reflect.InvocationTargetException;
import java.lang.reflect.Method;
import java.lang.reflect.Modifier;
import java.util.ArrayList;
import java.util.HashMap;
import java.util.List;
import java.util.Map;
import java.util.Set;
import java.util.regex.Matcher;
import java.util.regex.Pattern;

/**
 * A run of calls on a new object, told as rows:
 * "strike()" is done and must not throw; "strike() = 50" must answer 50 (or NONE); "strike() !state" must throw
 * IllegalStateException ("!argument" and "!index" the other two); "40* strike()" is done forty times;
 * "write(spare2)" appends each character; min and max are the least and the greatest int or long.
 * Behind a row that throws, or whose method changes nothing, all that can be found out of the object must be as
 * if the row had not been: the run is made again on other objects, with the row and without it (not behind a row
 * with a number of times ahead, be it 1). Behind a wrong row the run ends.
 */
final class Run {
    /** What an object answers after so many calls is free. */
    private static final int MOST_CALLS = 512;
    /** Finding all out takes fewer calls than this. */
    private static final int CALLS_TO_FIND_OUT = 320;
    private static final Set<String> CHANGING = Set.of("append", "clearText", "load", "bound", "strike", "spare",
            "strikeTo", "again", "undo", "save", "restore");
    private static final Pattern ROW = Pattern.compile(
            "(?:(\\d+)\\* )?(\\w+)\\((.*)\\)(?: = (-?\\d+|NONE)| !(argument|state|index))?", Pattern.DOTALL);

    private static final int MOST_TOLD = 12;

    private final Check check;
    private final int wrongAhead;
    private final Caller caller = new Caller();
    /** The calls that have changed something. */
    private final List<String> past = new ArrayList<>();
    /** What is found out behind them, or null if nobody has asked yet. */
    private List<String> found;

    Run(Check check) {
        this.check = check;
        this.wrongAhead = check.wrong();
    }

    void row(String row) {
        if (check.wrong() > wrongAhead) {
            return;
        }
        Matcher parts = ROW.matcher(row);
        if (!parts.matches()) {
            check.compare(row, "a row", "no row");
            return;
        }
        boolean counted = parts.group(1) != null;
        int times = counted ? Integer.parseInt(parts.group(1)) : 1;
        for (String call : callsOf(parts.group(2), parts.group(3))) {
            for (int i = 0; i < times; i++) {
                make(call, dueOf(parts.group(4), parts.group(5)), !counted);
            }
        }
    }

    private static List<String> callsOf(String name, String arguments) {
        if (!name.equals("write")) {
            return List.of(name + "(" + arguments + ")");
        }
        List<String> calls = new ArrayList<>();
        for (char sign : arguments.toCharArray()) {
            calls.add("append(" + (int) sign + ")");
        }
        return calls;
    }

    /** Returns null if any answer will do that is no exception. */
    private static String dueOf(String answer, String refusal) {
        if (refusal != null) {
            return refusal.equals("argument") ? "throws.IllegalArgumentException"
                    : refusal.equals("state") ? "throws.IllegalStateException" : "throws.IndexOutOfBoundsException";
        }
        return "NONE".equals(answer) ? "-1" : answer;
    }

    private void make(String call, String due, boolean looksBehind) {
        String got = caller.answerTo(call);
        boolean threw = got.startsWith("throws");
        if (due == null) {
            check.compare(told(call), "an answer", threw ? got : "an answer");
        } else {
            check.compare(told(call), due, got);
        }
        check.compare("the calls up to " + call, "512 at most", caller.calls <= MOST_CALLS ? "512 at most" : "more");
        if (!threw && CHANGING.contains(call.substring(0, call.indexOf('(')))) {
            past.add(call);
            found = null;
        } else if (looksBehind && past.size() + CALLS_TO_FIND_OUT < MOST_CALLS) {
            seekDifference(call);
        }
    }

    /** The calls that led to this one; a long run is told with a gap. */
    private String told(String call) {
        int gap = past.size() - MOST_TOLD;
        if (gap <= 0) {
            return past + " " + call;
        }
        int first = MOST_TOLD / 2;
        return past.subList(0, first) + " .. " + gap + " calls more .. " + past.subList(first + gap, past.size()) + " " + call;
    }

    private void seekDifference(String call) {
        if (found == null) {
            found = findOut(past);
        }
        List<String> longer = new ArrayList<>(past);
        longer.add(call);
        List<String> after = findOut(longer);
        for (int i = 0; i < found.size(); i++) {
            check.compare(told(call) + " and then", found.get(i), after.get(i));
        }
    }

    /** What changes what is found out next needs an object of its own. */
    private List<String> findOut(List<String> calls) {
        List<String> all = new ArrayList<>();
        Caller seen = again(calls);
        all.add(seen.wholeState());
        all.add(seen.answersTo("restore(0)") + seen.shortState());
        all.add(seen.answersTo("restore(1)") + seen.shortState());
        Caller undone = again(calls);
        StringBuilder states = new StringBuilder();
        for (int i = 0; i < 16; i++) {
            states.append(undone.answersTo("undo()", "about(0)", "about(2)", "about(3)", "about(5)", "sumLeft(0)"));
        }
        all.add(states.toString());
        boolean hasText = calls.stream().anyMatch(call -> call.startsWith("append"));
        for (String end : hasText ? new String[] {"", "ke", "re", "n", "5", ",again"} : new String[] {""}) {
            Caller written = again(calls);
            for (char sign : end.toCharArray()) {
                written.answerTo("append(" + (int) sign + ")");
            }
            all.add("with " + end + ": " + written.answersTo("errorPosition()", "load()", "undo()", "restore(0)",
                    "restore(1)", "clearText()") + written.shortState());
        }
        return all;
    }

    private static Caller again(List<String> calls) {
        Caller other = new Caller();
        for (String call : calls) {
            other.answerTo(call);
        }
        return other;
    }

    /** An object, with calls told as texts. */
    private static final class Caller {
        private static final Map<String, Method> METHODS = new HashMap<>();

        static {
            for (Method method : StruckCounts.class.getDeclaredMethods()) {
                if (Modifier.isPublic(method.getModifiers())) {
                    METHODS.put(method.getName(), method);
                }
            }
        }

        private final StruckCounts counts = new StruckCounts();
        private int calls = 0;

        String answerTo(String call) {
            calls++;
            String name = call.substring(0, call.indexOf('('));
            String arguments = call.substring(name.length() + 1, call.length() - 1);
            Method method = METHODS.get(name);
            if (method == null) {
                return "there is no method " + name;
            }
            try {
                return String.valueOf(method.invoke(counts, valuesOf(method.getParameterTypes(), arguments)));
            } catch (InvocationTargetException thrown) {
                return "throws." + thrown.getCause().getClass().getName().replace("java.lang.", "");
            } catch (IllegalAccessException | RuntimeException fault) {
                return "the row is wrong: " + fault;
            }
        }

        private static Object[] valuesOf(Class<?>[] types, String arguments) {
            String[] texts = arguments.isEmpty() ? new String[0] : arguments.split(", ");
            Object[] values = new Object[texts.length];
            for (int i = 0; i < texts.length; i++) {
                boolean isLong = i < types.length && types[i] == long.class;
                switch (texts[i]) {
                    case "min":
                        values[i] = isLong ? (Object) Long.MIN_VALUE : (Object) Integer.MIN_VALUE;
                        break;
                    case "max":
                        values[i] = isLong ? (Object) Long.MAX_VALUE : (Object) Integer.MAX_VALUE;
                        break;
                    default:
                        values[i] = isLong ? (Object) Long.valueOf(texts[i]) : (Object) Integer.valueOf(texts[i]);
                        break;
                }
            }
            return values;
        }

        String answersTo(String... many) {
            StringBuilder all = new StringBuilder();
            for (String call : many) {
                all.append(call).append(' ').append(answerTo(call)).append("; ");
            }
            return all.toString();
        }

        String shortState() {
            StringBuilder all = new StringBuilder(answersTo("about(0)", "about(2)", "about(3)", "about(5)", "sumLeft(0)"));
            for (int k = 0; k <= 40; k++) {
                all.append(answersTo("came(" + k + ")"));
            }
            return all.toString();
        }

        String wholeState() {
            StringBuilder all = new StringBuilder(shortState() + answersTo("about(1)", "about(4)", "about(6)"));
            int size = counts.about(1);
            for (int q = 0; q < size; q++) {
                // Of many quotients the first and the last ones will do.
                if (q < 10 || q >= size - 9) {
                    all.append(answersTo("quotient(" + q + ")", "left(" + q + ")", "sumLeft(" + q + ")",
                            "restLeft(" + q + ", 0)", "restLeft(" + q + ", 1)", "restLeft(" + q + ", 2)",
                            "restLeft(" + q + ", 3)", "wouldStrike(" + q + ")"));
                }
            }
            return all.toString();
        }
    }
}
