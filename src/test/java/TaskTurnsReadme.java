import java.io.IOException;
import java.lang.reflect.Method;
import java.nio.file.Files;
import java.nio.file.Path;
import java.util.ArrayList;
import java.util.List;
import java.util.Set;
import java.util.TreeSet;
import java.util.regex.Matcher;
import java.util.regex.Pattern;

/** Runs the examples of README.md: each call must answer what stands behind it, and each method must be shown. */
public final class TaskTurnsReadme {
    private static final String NEW_OBJECT = "TaskTurns x = new TaskTurns();";
    private static final Pattern CALL = Pattern.compile("x\\.(\\w+)\\(([^)]*)\\); +// (-?\\d+|BAD|NO|FULL|NONE)(:.*)?");

    private static int calls = 0;
    private static int wrong = 0;

    public static void main(String[] args) throws IOException, ReflectiveOperationException {
        List<String> readme = Files.readAllLines(Path.of("README.md"));
        Set<String> shown = new TreeSet<>();
        TaskTurns x = null;
        for (String line : examplesOf(readme)) {
            Matcher call = CALL.matcher(line);
            if (line.equals(NEW_OBJECT)) {
                x = new TaskTurns();
            } else if (x != null && call.matches()) {
                shown.add(call.group(1));
                look(x, line, call);
            } else {
                tell("no call with an answer: " + line);
            }
        }
        lookAtMethods(String.join("\n", readme), shown);
        System.out.println(calls + " calls of README.md, " + wrong + " not as told");
        if (wrong != 0) {
            System.exit(1);
        }
    }

    private static List<String> examplesOf(List<String> readme) {
        List<String> lines = new ArrayList<>();
        boolean within = false;
        for (String line : readme) {
            if (line.startsWith("```")) {
                within = line.equals("```java");
            } else if (within) {
                lines.add(line);
            }
        }
        return lines;
    }

    private static void look(TaskTurns x, String line, Matcher call) throws ReflectiveOperationException {
        calls++;
        String[] texts = call.group(2).split(", ");
        Object[] values = new Object[texts.length];
        for (int i = 0; i < texts.length; i++) {
            boolean isBoolean = texts[i].equals("true") || texts[i].equals("false");
            values[i] = isBoolean ? (Object) Boolean.valueOf(texts[i]) : (Object) Integer.valueOf(texts[i]);
        }
        Object got = methodNamed(call.group(1)).invoke(x, values);
        if (!got.equals(dueOf(call.group(3)))) {
            tell(line + " answered " + got);
        }
    }

    private static int dueOf(String text) throws ReflectiveOperationException {
        return Character.isLetter(text.charAt(0))
            ? TaskTurns.class.getField(text).getInt(null) : Integer.parseInt(text);
    }

    private static Method methodNamed(String name) throws NoSuchMethodException {
        for (Method method : TaskTurns.class.getDeclaredMethods()) {
            if (method.getName().equals(name)) {
                return method;
            }
        }
        throw new NoSuchMethodException(name);
    }

    private static void lookAtMethods(String readme, Set<String> shown) {
        for (Method method : TaskTurns.class.getMethods()) {
            String name = method.getName();
            if (method.getDeclaringClass() != TaskTurns.class) {
                continue;
            }
            if (!shown.contains(name)) {
                tell("no example of " + name);
            }
            if (!readme.contains("| `" + name + "(")) {
                tell("no line in the table of " + name);
            }
        }
    }

    private static void tell(String what) {
        wrong++;
        System.out.println(what);
    }
}
