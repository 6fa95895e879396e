import java.lang.reflect.Constructor;
import java.lang.reflect.Field;
import java.lang.reflect.Method;
import java.lang.reflect.Modifier;
import java.nio.file.Files;
import java.nio.file.Path;
import java.util.List;
import java.util.Set;
import java.util.TreeSet;
import java.util.regex.Matcher;
import java.util.regex.Pattern;

/** The public face is the document's and no more, and the source keeps to LANGUAGE.md where that can be seen here. */
public final class FaceTest {
    private static final Set<String> FACE = Set.of("feed(int,int,int,int,int)int", "back(int)int", "read()int", "place()int",
            "house(int,int,int)int", "verse(int,int)int", "wants(int,int)int", "tells(int,int,int,int)int", "set(int)boolean",
            "clear(int)boolean", "lend(int,int,int)boolean", "giveBack(int,int,int)boolean", "days(int)int", "undo()boolean",
            "from(int,int)int", "best(int)int", "worth(int,int)int", "pillar(int)int", "twoDays(int)int", "loans(int,int)int",
            "bargains(int)int", "strike(int)int", "clash(int)int", "late()int", "wornOut(int,int)int",
            "then(int,int,int,int)int", "paidIn(int)int", "year(int,int,int,int)int", "tell(int,int,boolean)int",
            "forget()int", "whose(int,int)int", "ask(int,int)int", "hold(int)boolean", "restore(int)boolean", "count(int)int");
    private static final List<String> NOT_IN_SOURCE = List.of("\\bthrow\\b", "\\btry\\b", "\\bcatch\\b", "\\bsynchronized\\b",
            "\\bassert\\b", "->", "::", "\\bSystem\\.(?!arraycopy)", "\\bRandom\\b", "\\bThread\\b", "Exact\\(",
            "\\bprotected\\b", "\\bInteger\\.(?!bitCount)", "\\bString\\.", "\\[\\]\\[\\]", "import (?!java\\.util\\.Arrays;)");

    public static void main(String[] args) throws Exception {
        face();
        source(Files.readString(Path.of("src/main/java/CapitalCase.java")));
        size(CapitalCase.class);
        Due.due("classes", CapitalCase.class.getDeclaredClasses().length <= 12, true);
        for (Class<?> inside : CapitalCase.class.getDeclaredClasses()) {
            size(inside);
            Due.due("classes inside " + inside, inside.getDeclaredClasses().length, 0);
        }
        Due.end();
    }

    private static void face() {
        Set<String> methods = new TreeSet<>();
        Set<String> names = new TreeSet<>();
        for (Method method : CapitalCase.class.getDeclaredMethods()) {
            if (Modifier.isPrivate(method.getModifiers())) {
                continue;
            }
            Due.due(method + " is public", Modifier.isPublic(method.getModifiers()), true);
            StringBuilder out = new StringBuilder(method.getName()).append('(');
            for (Class<?> type : method.getParameterTypes()) {
                out.append(out.charAt(out.length() - 1) == '(' ? "" : ",").append(type);
            }
            methods.add(out.append(')').append(method.getReturnType()).toString());
            names.add(method.getName());
        }
        Due.due("the methods: " + methods, methods.equals(FACE), true);
        for (Method method : CapitalCase.class.getDeclaredMethods()) {
            boolean bears = Modifier.isPrivate(method.getModifiers()) && names.contains(method.getName());
            Due.due(method + " bears a public one's name", bears, false);
        }
        for (Field field : CapitalCase.class.getDeclaredFields()) {
            Due.due(field + " is private or NONE", Modifier.isPrivate(field.getModifiers()), !field.getName().equals("NONE"));
        }
        Constructor<?>[] constructors = CapitalCase.class.getDeclaredConstructors();
        Due.due("constructors", constructors.length, 1);
        Due.due("the constructor is public", Modifier.isPublic(constructors[0].getModifiers()), true);
        Due.due("the class is final", Modifier.isFinal(CapitalCase.class.getModifiers()), true);
        for (Class<?> inside : CapitalCase.class.getDeclaredClasses()) {
            Due.due(inside + " is static", Modifier.isStatic(inside.getModifiers()), true);
            Due.due(inside + " is private", Modifier.isPrivate(inside.getModifiers()), true);
        }
    }

    /** Few fields and parameters, and no state that is static. */
    private static void size(Class<?> one) {
        int fields = 0;
        for (Field field : one.getDeclaredFields()) {
            if (Modifier.isStatic(field.getModifiers())) {
                Due.due(field + " is final", Modifier.isFinal(field.getModifiers()), true);
                Due.due(field + " is an int or a String", field.getType() == int.class || field.getType() == String.class, true);
            } else {
                fields++;
            }
        }
        Due.due("the fields of " + one + " are few: " + fields, fields <= 20, true);
        for (Method method : one.getDeclaredMethods()) {
            Due.due(method + " takes seven parameters at most", method.getParameterCount() <= 7, true);
        }
        for (Constructor<?> constructor : one.getDeclaredConstructors()) {
            Due.due(constructor + " takes seven parameters at most", constructor.getParameterCount() <= 7, true);
        }
    }

    private static void source(String source) {
        String code = source.replaceAll("(?s)/\\*.*?\\*/", "").replaceAll("//[^\n]*", "");
        for (String no : NOT_IN_SOURCE) {
            Matcher found = Pattern.compile(no).matcher(code);
            Due.due("the source has " + no, found.find(), false);
        }
        int start = 0;
        String[] lines = code.split("\n");
        for (int i = 0; i < lines.length; i++) {
            if (lines[i].matches("\\s+[a-zA-Z].*\\) \\{") && !lines[i].matches("\\s+(if|for|while|switch|else).*")) {
                start = i;
            }
            if (lines[i].isBlank()) {
                Due.due("lines of the method at " + start + " are few", i - start < 62 || start == 0, true);
            }
        }
        callsOfItself(lines);
    }

    /** Rule 8: of the methods that call themselves only those are fine that are private and static. */
    private static void callsOfItself(String[] lines) {
        Pattern head = Pattern.compile("( +)((?:[a-z]+ )*)[A-Za-z]+(?:\\[\\])? ([a-zA-Z]+)\\(.*\\) \\{");
        int methods = 0;
        for (int i = 0; i < lines.length; i++) {
            Matcher found = head.matcher(lines[i]);
            if (!found.matches() || found.group(2).contains("else") || found.group(2).contains("new")) {
                continue;
            }
            methods++;
            boolean calls = false;
            for (int j = i + 1; j < lines.length && !lines[j].equals(found.group(1) + "}"); j++) {
                calls = calls || Pattern.compile("(?<![.\\w])(this\\.)?" + found.group(3) + "\\(").matcher(lines[j]).find();
            }
            boolean fine = !calls || found.group(2).contains("private static");
            Due.due(found.group(3) + " calls itself only as LANGUAGE.md's rule 8 has it", fine, true);
        }
        Due.due("the methods of the source are seen: " + methods, methods > 100, true);
    }
}
