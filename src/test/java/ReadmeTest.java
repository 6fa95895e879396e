import java.lang.reflect.Method;
import java.lang.reflect.Modifier;
import java.nio.file.Files;
import java.nio.file.Path;
import java.util.regex.Matcher;
import java.util.regex.Pattern;

/** README.md is held to what it says: its run of calls is made, and each call of the face has its place there. */
public final class ReadmeTest {
    private static final Pattern CALL = Pattern.compile("x\\.(\\w+)\\(([^)]*)\\); +// (true|false|-?\\d+)\\b.*");

    public static void main(String[] args) throws Exception {
        String readme = Files.readString(Path.of("README.md"));
        faceIsThere(readme);
        CapitalCase x = new CapitalCase();
        Due.feed(x, block(readme, "```text\n"));
        int calls = 0;
        for (String line : readme.split("\n")) {
            Matcher call = CALL.matcher(line);
            if (call.matches()) {
                String got = answer(x, call.group(1), call.group(2));
                Due.due(line + " (" + got + ")", got.equals(call.group(3)), true);
                calls++;
            }
        }
        Due.due("calls of README.md: " + calls, calls > 20, true);
        Due.end();
    }

    private static String block(String readme, String head) {
        int start = readme.indexOf(head) + head.length();
        return readme.substring(start, readme.indexOf("```", start));
    }

    private static void faceIsThere(String readme) {
        for (Method method : CapitalCase.class.getDeclaredMethods()) {
            if (Modifier.isPublic(method.getModifiers())) {
                boolean there = readme.contains("| `" + method.getName() + "(");
                Due.due(method.getName() + " has its row in README.md", there, true);
            }
        }
    }

    private static String answer(CapitalCase x, String name, String list) throws Exception {
        for (Method method : CapitalCase.class.getMethods()) {
            if (method.getName().equals(name)) {
                return String.valueOf(method.invoke(x, values(method, list)));
            }
        }
        return "no such call";
    }

    private static Object[] values(Method method, String list) {
        String[] parts = list.isEmpty() ? new String[0] : list.split(", ");
        Object[] values = new Object[parts.length];
        for (int i = 0; i < parts.length; i++) {
            boolean isNumber = method.getParameterTypes()[i] == int.class;
            values[i] = isNumber ? (Object) Integer.valueOf(parts[i]) : (Object) Boolean.valueOf(parts[i]);
        }
        return values;
    }
}
