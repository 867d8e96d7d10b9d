import java.io.IOException;
import java.lang.reflect.InvocationTargetException;
import java.lang.reflect.Method;
import java.nio.file.Files;
import java.nio.file.Path;
import java.util.HashSet;
import java.util.Set;
import java.util.regex.Matcher;
import java.util.regex.Pattern;

/** README.md's calls answer as README.md says they do, and show every method of the face. */
public final class ReadmeTest {
    private static final Pattern MADE = Pattern.compile("CoefTurns plane = new CoefTurns\\(([^)]*)\\);( *// .*)?");
    private static final Pattern CALL = Pattern.compile("plane\\.(\\w+)\\(([^)]*)\\);(?: *// (.*))?");
    private static final Pattern SAID = Pattern.compile("(answers|throws) ([-\\w]+)(: .*)?");

    private final Due due = new Due();
    private final Set<String> shown = new HashSet<>();
    private CoefTurns plane = null;

    public static void main(String[] args) throws IOException {
        ReadmeTest test = new ReadmeTest();
        test.runExamples(Files.readString(Path.of("README.md")));
        test.everyMethodIsShown();
        test.due.end();
    }

    private void runExamples(String readme) {
        boolean inside = false;
        for (String line : readme.split("\n")) {
            if (line.startsWith("```")) {
                inside = line.equals("```java");
                plane = null;
            } else if (inside) {
                due.of(line, () -> runLine(line));
            }
        }
    }

    private void runLine(String line) {
        Matcher made = MADE.matcher(line);
        Matcher call = CALL.matcher(line);
        if (made.matches()) {
            Object[] sizes = numbers(made.group(1));
            plane = new CoefTurns((int) sizes[0], (int) sizes[1]);
            due.is("made", true, true);
        } else if (call.matches() && plane != null) {
            shown.add(call.group(1));
            compare(answerOf(method(call.group(1)), numbers(call.group(2))), saidBehind(call.group(3)));
        } else {
            due.tellWrong("is no call of a plane");
        }
    }

    private void compare(String got, String said) {
        due.is("does what is said (it " + got + ", said is: " + said + ")", got.equals(said), true);
    }

    private static String saidBehind(String comment) {
        Matcher said = SAID.matcher(comment == null ? "" : comment);
        if (!said.matches()) {
            return "answers nothing";
        }
        boolean isNumber = said.group(2).matches("-?[0-9].*");
        return said.group(1) + " " + (isNumber ? String.valueOf(Long.decode(said.group(2))) : said.group(2));
    }

    private String answerOf(Method method, Object[] numbers) {
        try {
            Object answer = method.invoke(plane, numbers);
            return "answers " + (method.getReturnType() == void.class ? "nothing" : answer);
        } catch (InvocationTargetException e) {
            return "throws " + e.getCause().getClass().getSimpleName();
        } catch (IllegalAccessException e) {
            throw new IllegalStateException(e);
        }
    }

    private static Method method(String name) {
        for (Method method : CoefTurns.class.getDeclaredMethods()) {
            if (method.getName().equals(name)) {
                return method;
            }
        }
        throw new IllegalStateException("no method " + name);
    }

    private static Object[] numbers(String list) {
        String[] parts = list.isEmpty() ? new String[0] : list.split(", ");
        Object[] numbers = new Object[parts.length];
        for (int i = 0; i < parts.length; i++) {
            numbers[i] = Integer.parseInt(parts[i]);
        }
        return numbers;
    }

    private void everyMethodIsShown() {
        for (Method method : CoefTurns.class.getMethods()) {
            if (method.getDeclaringClass() == CoefTurns.class) {
                due.is(method.getName() + " is shown", shown.contains(method.getName()), true);
            }
        }
    }
}
