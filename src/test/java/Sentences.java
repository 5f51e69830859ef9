import java.lang.reflect.Method;
import java.util.ArrayList;
import java.util.Comparator;
import java.util.List;

/** Tests that are each for one sentence of the document; a test is a method that bears its sentence. */
abstract class Sentences {
    static final int NONE = StruckCounts.NONE;

    private final Check check = new Check(getClass().getSimpleName());

    /** Runs the tests whose names are given, or all of them if none is. */
    final void runAll(String[] names) {
        List<String> chosen = List.of(names);
        int tests = 0;
        for (Method test : testsOf(getClass())) {
            if (chosen.isEmpty() || chosen.contains(test.getName())) {
                check.begin(test.getName() + " (" + test.getAnnotation(Sentence.class).value() + ")");
                check.is("the test", 0, () -> invoke(test));
                tests++;
            }
        }
        System.out.println(tests + " sentences");
        int found = tests;
        check.is("some test is found", 1, () -> Math.min(1, found));
        check.end();
    }

    private static List<Method> testsOf(Class<?> kind) {
        List<Method> tests = new ArrayList<>();
        for (Method method : kind.getDeclaredMethods()) {
            if (method.isAnnotationPresent(Sentence.class)) {
                tests.add(method);
            }
        }
        tests.sort(Comparator.comparing(Method::getName));
        return tests;
    }

    private long invoke(Method test) {
        try {
            test.setAccessible(true);
            test.invoke(this);
            return 0;
        } catch (ReflectiveOperationException thrown) {
            throw new IllegalStateException(thrown);
        }
    }

    /** Makes the calls that the rows tell on a new object; Run tells what a row looks like. */
    final void run(String... rows) {
        Run run = new Run(check);
        for (String row : rows) {
            run.row(row);
        }
    }

    final void run(List<String> rows) {
        run(rows.toArray(new String[0]));
    }

    /** What errorPosition() and load() answer to a text on a new object; NONE if it is a table. */
    final void text(String text, int errorPosition) {
        run("write(" + text + ")", "errorPosition() = " + errorPosition,
                errorPosition == NONE ? "load()" : "load() !state",
                "clearText() = " + text.length());
    }

    /** What is in its range, and what is not, in a call with one argument behind the rows before it. */
    final void argument(String call, String refusal, long[] inside, long[] outside, String... before) {
        for (long value : inside) {
            List<String> rows = new ArrayList<>(List.of(before));
            rows.add(call + "(" + value + ")");
            run(rows);
        }
        for (long value : outside) {
            List<String> rows = new ArrayList<>(List.of(before));
            rows.add(call + "(" + value + ") !" + refusal);
            run(rows);
        }
    }

    /** One answer of an object that the test itself asks. */
    final void due(String call, long want, long got) {
        check.compare(call, Long.toString(want), Long.toString(got));
    }

    static long[] of(long... values) {
        return values;
    }
}
