import java.lang.reflect.Array;
import java.lang.reflect.Constructor;
import java.lang.reflect.Field;
import java.lang.reflect.Method;
import java.lang.reflect.Modifier;
import java.nio.charset.StandardCharsets;
import java.nio.file.Files;
import java.nio.file.Path;
import java.util.Arrays;
import java.util.IdentityHashMap;
import java.util.Map;
import java.util.Set;
import java.util.TreeSet;
import java.util.stream.Collectors;

/** The public face of the document, and those rules of LANGUAGE.md that can be seen from outside. */
public final class FaceTests {
    private static final String[] FACE = {
        "int append(int) throws IllegalArgumentException, IllegalStateException", "int clearText()",
        "int errorPosition()", "int load() throws IllegalStateException",
        "int about(int) throws IllegalArgumentException", "int quotient(int) throws IndexOutOfBoundsException",
        "int quotientOf(int)", "int left(int) throws IndexOutOfBoundsException",
        "long sumLeft(int) throws IndexOutOfBoundsException",
        "int restLeft(int, int) throws IndexOutOfBoundsException, IllegalArgumentException",
        "int came(int) throws IllegalArgumentException", "int bound(int) throws IllegalArgumentException",
        "int strike() throws IllegalStateException", "int spare() throws IllegalStateException",
        "int strikeTo(int) throws IllegalArgumentException", "int again()",
        "int undo() throws IllegalStateException", "int wouldStrike(int) throws IndexOutOfBoundsException",
        "int primes(int) throws IllegalArgumentException", "long sumOf(int) throws IllegalArgumentException",
        "int inSpan(int, int) throws IllegalArgumentException",
        "int byRest(int, int) throws IllegalArgumentException", "int prime(int) throws IllegalArgumentException",
        "int leastFactor(int) throws IllegalArgumentException",
        "int withLeast(int, int) throws IllegalArgumentException",
        "int twoFactors(int) throws IllegalArgumentException",
        "int runScript(int, long) throws IllegalArgumentException",
        "int simulate(long, int) throws IllegalArgumentException",
        "int save(int) throws IndexOutOfBoundsException",
        "int restore(int) throws IndexOutOfBoundsException, IllegalStateException"
    };
    /** Each call of a run could be a constructor, and all of them must fit into one room. */
    private static final int MOST_ELEMENTS = 7300000 / 512;
    private static final int MOST_OBJECTS = 600000 / 512;

    private final Check check = new Check("FaceTests");
    private final Map<Object, Boolean> met = new IdentityHashMap<>();
    private int elements = 0;

    public static void main(String[] args) throws Exception {
        FaceTests tests = new FaceTests();
        tests.face();
        tests.members();
        tests.signs();
        tests.room();
        tests.check.end();
    }

    private static String namesOf(Class<?>[] classes) {
        return Arrays.stream(classes).map(Class::getSimpleName).collect(Collectors.joining(", "));
    }

    private static String lineOf(Method method) {
        String thrown = namesOf(method.getExceptionTypes());
        return method.getReturnType().getSimpleName() + " " + method.getName() + "("
                + namesOf(method.getParameterTypes()) + ")" + (thrown.isEmpty() ? "" : " throws " + thrown);
    }

    private void face() throws Exception {
        check.begin("the public face");
        Set<String> found = new TreeSet<>();
        for (Method method : StruckCounts.class.getDeclaredMethods()) {
            if (Modifier.isPublic(method.getModifiers())) {
                found.add(lineOf(method));
            }
        }
        check.compare("the public methods", new TreeSet<>(Arrays.asList(FACE)).toString(), found.toString());
        check.is("the class's modifiers", Modifier.PUBLIC | Modifier.FINAL, () -> StruckCounts.class.getModifiers());
        Constructor<?>[] constructors = StruckCounts.class.getDeclaredConstructors();
        check.is("constructors", 1, () -> constructors.length);
        check.is("the constructor's parameters", 0, () -> constructors[0].getParameterCount());
        check.is("the constructor's modifiers", Modifier.PUBLIC, () -> constructors[0].getModifiers());
        Field none = StruckCounts.class.getDeclaredField("NONE");
        check.is("NONE's modifiers", Modifier.PUBLIC | Modifier.STATIC | Modifier.FINAL, () -> none.getModifiers());
        check.is("NONE", -1, () -> StruckCounts.NONE);
    }

    private void members() {
        check.begin("rules 1, 5 and 11");
        Set<String> names = new TreeSet<>();
        for (Method method : StruckCounts.class.getDeclaredMethods()) {
            if (Modifier.isPublic(method.getModifiers())) {
                names.add(method.getName());
            }
        }
        for (Method method : StruckCounts.class.getDeclaredMethods()) {
            if (!Modifier.isPublic(method.getModifiers())) {
                check.is(method + " is private", 1, () -> Modifier.isPrivate(method.getModifiers()) ? 1 : 0);
                check.is(method + " bears a public name", 0, () -> names.contains(method.getName()) ? 1 : 0);
            }
        }
        for (Field field : StruckCounts.class.getDeclaredFields()) {
            boolean isPrivate = Modifier.isPrivate(field.getModifiers());
            check.is(field + " is private", field.getName().equals("NONE") ? 0 : 1, () -> isPrivate ? 1 : 0);
        }
        for (Class<?> inside : StruckCounts.class.getDeclaredClasses()) {
            check.is(inside + " is static", 1, () -> Modifier.isStatic(inside.getModifiers()) ? 1 : 0);
            for (Field field : inside.getDeclaredFields()) {
                int modifiers = field.getModifiers();
                boolean fine = !Modifier.isStatic(modifiers) || Modifier.isFinal(modifiers);
                check.is(field + " is final if it is static", 1, () -> fine ? 1 : 0);
            }
        }
    }

    private void signs() throws Exception {
        check.begin("rule 4");
        String source = Files.readString(Path.of("src/main/java/StruckCounts.java"), StandardCharsets.ISO_8859_1);
        check.is("signs above 126", 0, () -> source.chars().filter(c -> c > 126).count());
    }

    private void room() throws Exception {
        check.begin("the room");
        count(new StruckCounts());
        check.is("few objects", 1, () -> met.size() <= MOST_OBJECTS ? 1 : 0);
        check.is("few elements", 1, () -> elements <= MOST_ELEMENTS ? 1 : 0);
    }

    private void count(Object object) throws Exception {
        if (object == null || met.put(object, true) != null) {
            return;
        }
        if (object.getClass().isArray()) {
            elements += Array.getLength(object);
            return;
        }
        for (Field field : object.getClass().getDeclaredFields()) {
            if (Modifier.isStatic(field.getModifiers())) {
                continue;
            }
            elements++;
            field.setAccessible(true);
            Object value = field.get(object);
            boolean ours = value != null && (value.getClass().isArray()
                    || value.getClass().getName().startsWith("StruckCounts"));
            if (!field.getType().isPrimitive() && ours) {
                count(value);
            }
        }
    }
}
