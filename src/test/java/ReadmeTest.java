import java.io.IOException;
import java.lang.reflect.Method;
import java.lang.reflect.Modifier;
import java.nio.file.Files;
import java.nio.file.Path;
import java.util.HashMap;
import java.util.HashSet;
import java.util.Map;
import java.util.Set;
import java.util.regex.Matcher;
import java.util.regex.Pattern;

/** The examples in README.md: every call of the face is in one, and answers what is written behind it. */
final class ReadmeTest {
    private static final Pattern EXAMPLE = Pattern.compile("```java\\n(.*?)```", Pattern.DOTALL);
    private static final Pattern CALL = Pattern.compile(
        "(?:int (\\w+) = )?heap\\.(\\w+)\\((.*?)\\);\\s*// (throws IndexOutOfBoundsException|true|false|-?\\d+)\\b.*");
    private static final String NEW_OBJECT = "HeapRow heap = new HeapRow();";

    private final Script script = new Script();
    private final Set<String> called = new HashSet<>();

    public static void main(String[] args) throws IOException {
        new ReadmeTest().run(Files.readString(Path.of("README.md")));
    }

    private void run(String readme) {
        Matcher example = EXAMPLE.matcher(readme);
        for (int number = 1; example.find(); number++) {
            String title = "README.md, example " + number;
            script.run(title, asScript(title, example.group(1).split("\\n")));
        }
        for (Method method : HeapRow.class.getDeclaredMethods()) {
            boolean isOfTheFace = Modifier.isPublic(method.getModifiers());
            if (isOfTheFace && !called.contains(method.getName())) {
                script.tell("README.md: no example calls " + method.getName());
            }
        }
        script.finish();
    }

    private String asScript(String title, String[] lines) {
        Map<String, String> variables = new HashMap<>();
        StringBuilder text = new StringBuilder();
        if (!lines[0].equals(NEW_OBJECT)) {
            script.tell(title + ": does not begin with a new object");
        }
        for (int k = 1; k < lines.length; k++) {
            Matcher call = CALL.matcher(lines[k]);
            if (call.matches()) {
                text.append(asStep(call, variables)).append('\n');
            } else {
                script.tell(title + ": no call with its answer: " + lines[k]);
            }
        }
        return text.toString();
    }

    private String asStep(Matcher call, Map<String, String> variables) {
        StringBuilder step = new StringBuilder(call.group(2));
        for (String argument : call.group(3).split(", ")) {
            step.append(' ').append(variables.getOrDefault(argument, argument));
        }
        called.add(call.group(2));
        if (call.group(1) != null) {
            variables.put(call.group(1), call.group(4));
        }
        return step.toString().strip() + due(call.group(4));
    }

    private static String due(String answer) {
        switch (answer) {
            case "true": return " = 1";
            case "false": return " = 0";
            case "throws IndexOutOfBoundsException": return " throws";
            default: return " = " + answer;
        }
    }
}
