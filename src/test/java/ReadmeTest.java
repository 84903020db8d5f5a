import java.io.File;
import java.io.IOException;
import java.io.UncheckedIOException;
import java.lang.reflect.InvocationTargetException;
import java.lang.reflect.Method;
import java.lang.reflect.Modifier;
import java.math.BigInteger;
import java.nio.file.Files;
import java.nio.file.Path;
import java.util.ArrayList;
import java.util.Collections;
import java.util.HashSet;
import java.util.List;
import java.util.Set;
import java.util.TreeSet;
import java.util.regex.Matcher;
import java.util.regex.Pattern;

/** The calls that README.md shows, read from it and made line by line, with the answers that it tells. */
final class ReadmeTest {
    private static final String NEW_OBJECT = "WideNumbers w = new WideNumbers();";
    private static final Pattern CALL = Pattern.compile("(?:(\\w+) (\\w+) = )?w\\.(\\w+)\\((.*)\\); *// (.*)");
    private static final Pattern TOLD_REGISTER = Pattern.compile("register (\\d+) is (\\S+?)(?:: .*)?");
    private static final Pattern TOLD_ANSWER = Pattern.compile("(-?\\d+)(?:: .*)?");
    private static final Pattern TOLD_TEST = Pattern.compile("\\| `(\\w+Test)` \\| .*");

    private final Check check = new Check("README.md");
    private final List<String> lines = readLines();
    private final Set<String> shownMethods = new TreeSet<>();
    private final Set<Integer> shownOperations = new TreeSet<>();

    public static void main(String[] args) {
        ReadmeTest test = new ReadmeTest();
        Check check = test.check;
        int place = 0;
        for (List<String> example : test.examples()) {
            place++;
            check.sentence("the calls of example " + place + " answer as told", () -> test.makeCalls(example));
        }
        check.sentence("every method is shown", test::everyMethodIsShown);
        check.sentence("every operation of two is shown", test::everyOperationIsShown);
        check.sentence("the table names the tests that there are", test::everyTestIsNamed);
        check.end();
    }

    private static List<String> readLines() {
        try {
            return Files.readAllLines(Path.of("README.md"));
        } catch (IOException e) {
            throw new UncheckedIOException(e);
        }
    }

    private List<List<String>> examples() {
        List<List<String>> examples = new ArrayList<>();
        List<String> open = null;
        for (String line : lines) {
            if (line.equals("```java")) {
                open = new ArrayList<>();
                examples.add(open);
            } else if (line.equals("```")) {
                open = null;
            } else if (open != null) {
                open.add(line);
            }
        }
        return examples;
    }

    private void makeCalls(List<String> example) {
        check.same("the first line", example.get(0), NEW_OBJECT);
        List<ShownCall> calls = new ArrayList<>();
        List<BigInteger> due = new ArrayList<>(Collections.nCopies(Wide.REGISTERS, Wide.ZERO));
        Set<String> variables = new HashSet<>();
        for (String line : example.subList(1, example.size())) {
            Matcher text = CALL.matcher(line);
            check.same(line + ": is a call with what it does", text.matches(), true);
            if (text.matches()) {
                calls.add(shownCall(line, text, variables));
                compareLastWithTold(calls, due);
            }
        }
    }

    private ShownCall shownCall(String line, Matcher text, Set<String> variables) {
        Method method = methodNamed(text.group(3));
        Object[] arguments = arguments(method, text.group(4).split(", "));
        shownMethods.add(method.getName());
        if (method.getName().equals("two")) {
            shownOperations.add((Integer) arguments[0]);
        }
        if (text.group(1) != null) {
            check.same(line + ": the type", text.group(1), method.getReturnType().getName());
            check.same(line + ": the variable is new", variables.add(text.group(2)), true);
        }
        return new ShownCall(line, method, arguments, text.group(5));
    }

    private static Method methodNamed(String name) {
        for (Method method : WideNumbers.class.getDeclaredMethods()) {
            if (Modifier.isPublic(method.getModifiers()) && method.getName().equals(name)) {
                return method;
            }
        }
        throw new IllegalArgumentException("no method has the name " + name);
    }

    private static Object[] arguments(Method method, String[] texts) {
        Class<?>[] types = method.getParameterTypes();
        if (types.length != texts.length) {
            throw new IllegalArgumentException(method.getName() + " has " + types.length + " parameters");
        }
        Object[] arguments = new Object[types.length];
        for (int i = 0; i < types.length; i++) {
            arguments[i] = argument(types[i], texts[i]);
        }
        return arguments;
    }

    private static Object argument(Class<?> type, String text) {
        if (type == boolean.class && (text.equals("true") || text.equals("false"))) {
            return text.equals("true");
        }
        int number = Integer.parseInt(text);
        return type == long.class ? (Object) Long.valueOf(number) : Integer.valueOf(number);
    }

    /** All calls are made on a new object each time: to read every register in between would take over 512 calls. */
    private void compareLastWithTold(List<ShownCall> calls, List<BigInteger> due) {
        WideNumbers w = new WideNumbers();
        Object answer = null;
        for (ShownCall call : calls) {
            answer = call.answerOf(w);
        }
        ShownCall last = calls.get(calls.size() - 1);
        Matcher register = TOLD_REGISTER.matcher(last.told);
        Matcher number = TOLD_ANSWER.matcher(last.told);
        if (register.matches()) {
            due.set(Integer.parseInt(register.group(1)), toldNumber(register.group(2)));
            check.same(last.line, answer, "nothing");
        } else if (number.matches()) {
            check.same(last.line, answer.toString(), number.group(1));
        } else {
            check.same(last.line, answer, last.told);
        }
        for (int r = 0; r < Wide.REGISTERS; r++) {
            check.number(last.line + ": register " + r + " behind it", Wide.read(w, r), due.get(r));
        }
    }

    private static BigInteger toldNumber(String text) {
        if (text.startsWith("2^")) {
            return Wide.bit(Integer.parseInt(text.substring(2)));
        }
        return Wide.wrapped(new BigInteger(text));
    }

    private void everyMethodIsShown() {
        Set<String> open = new TreeSet<>();
        for (Method method : WideNumbers.class.getDeclaredMethods()) {
            if (Modifier.isPublic(method.getModifiers())) {
                open.add(method.getName());
            }
        }
        check.same("the methods in the examples", shownMethods, open);
    }

    private void everyOperationIsShown() {
        for (int op = 0; op < 16; op++) {
            check.same("operation " + op + " is in an example", shownOperations.contains(op), true);
        }
    }

    private void everyTestIsNamed() {
        Set<String> named = new TreeSet<>();
        for (String line : lines) {
            Matcher test = TOLD_TEST.matcher(line);
            if (test.matches()) {
                named.add(test.group(1) + ".java");
            }
        }
        Set<String> there = new TreeSet<>();
        for (String file : new File("src/test/java").list()) {
            if (file.endsWith("Test.java")) {
                there.add(file);
            }
        }
        check.same("the tests in the table", named, there);
    }

    /** A call as a line of README.md shows it, and what that line tells of it. */
    private record ShownCall(String line, Method method, Object[] arguments, String told) {
        Object answerOf(WideNumbers w) {
            try {
                Object answer = method.invoke(w, arguments);
                return answer == null ? "nothing" : answer;
            } catch (InvocationTargetException e) {
                return "throws " + e.getCause().getClass().getSimpleName();
            } catch (IllegalAccessException e) {
                throw new IllegalStateException(e);
            }
        }
    }
}
