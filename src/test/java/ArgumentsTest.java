import java.lang.reflect.InvocationTargetException;
import java.lang.reflect.Method;
import java.util.Arrays;

/** Every method with arguments at and beyond each limit, in several states: nothing is thrown, and PlainTown answers the same. */
public final class ArgumentsTest {
    private static final int MIN = Integer.MIN_VALUE;
    private static final int MAX = Integer.MAX_VALUE;
    private static final int[] MANY = {MIN, MIN + 1, -1000000000, -2000, -32, -2, -1, 0, 1, 2, 3, 4, 5, 6, 7, 8, 9, 14, 15, 16, 17, 19, 20, 21,
        31, 32, 33, 59, 60, 61, 199, 200, 201, 254, 255, 256, 257, 998, 999, 1000, 1999, 2000, 2001, 65536, MAX - 1, MAX};
    private static final int[] SOME = {MIN, -1, 0, 1, 2, 4, 5, 6, 7, 8, 60, 61, 999, 1000, MAX};
    private static final int[] FEW = {MIN, -1, 0, 1, 2, 5, 7, 8, 20, 21, 60, 61, MAX};
    private static final String[] TEXTS = {"", "house a a;", "verse v a 1 1;",
        "house a aab; house b abc; verse v a 5 1; verse w bc 7 1; verse u ab 9 1; spoils 3; thieves 50; rank = has - worn;",
        "house a abcdefgh; house b aabbccdd; house c eeffgghh; house d abababab; house e h; verse p aab 1 0; verse q abcdefgh 2 3;"
            + "verse r h 99 99; verse s hh 3 1; verse t cde 4 2; verse u aaaa 5 5; verse v gfe 6 6; thieves 20; seed 9999; spoils 9;"
            + "wears = 1 + worn / 3; leave = if has < 2 then 1 else 3 - lent; pays = value + due - day;"};

    private final CapitalCase x = new CapitalCase();
    private final PlainTown model = new PlainTown();

    public static void main(String[] args) throws Exception {
        for (String text : TEXTS) {
            for (int deeds = 0; deeds < 3; deeds++) {
                new ArgumentsTest().sweep(text, deeds);
            }
        }
        Due.end();
    }

    private void sweep(String text, int deeds) throws Exception {
        Due.feed(x, text);
        for (int at = 0; at < text.length(); at += 20) {
            int[] n = new int[5];
            for (int i = 0; i < 20; i++) {
                n[i / 4] = n[i / 4] << 8 | (at + i < text.length() ? text.charAt(at + i) : ' ');
            }
            model.feed(n[0], n[1], n[2], n[3], n[4]);
        }
        x.read();
        model.read();
        for (int deed = 0; deed < deeds; deed++) {
            for (int i = 0; i < 4; i++) {
                Due.due("set", x.set(2 * i + deed), model.set(2 * i + deed));
                Due.due("lend", x.lend(i, i + 1, i), model.lend(i, i + 1, i));
                Due.due("tell", x.tell(i, deed + i, i < 2), model.tell(i, deed + i, i < 2));
            }
            Due.due("hold", x.hold(deed), model.hold(deed));
            Due.due("days", x.days(4), model.days(4));
            Due.due("clear", x.clear(2), model.clear(2));
        }
        Method[] methods = CapitalCase.class.getDeclaredMethods();
        Arrays.sort(methods, (one, other) -> order(one).compareTo(order(other)));
        for (Method method : methods) {
            if (java.lang.reflect.Modifier.isPublic(method.getModifiers()) && !method.getName().equals("feed")) {
                call(method, new Object[method.getParameterCount()], 0);
            }
        }
    }

    /** What changes something comes last. */
    private static String order(Method method) {
        boolean changes = method.getReturnType() == boolean.class || method.getName().matches("days|back|tell|forget|read");
        return (changes ? "1" : "0") + method.getName();
    }

    private void call(Method method, Object[] arguments, int at) throws Exception {
        if (at == arguments.length) {
            answer(method, arguments);
            return;
        }
        if (method.getParameterTypes()[at] == boolean.class) {
            arguments[at] = at % 2 == 0;
            call(method, arguments, at + 1);
            return;
        }
        for (int value : arguments.length < 3 ? MANY : arguments.length == 3 ? SOME : FEW) {
            arguments[at] = value;
            call(method, arguments, at + 1);
        }
    }

    private void answer(Method method, Object[] arguments) throws Exception {
        Object got;
        try {
            got = method.invoke(x, arguments);
        } catch (InvocationTargetException thrown) {
            got = thrown.getCause();
        }
        Method plain = PlainTown.class.getDeclaredMethod(method.getName(), method.getParameterTypes());
        plain.setAccessible(true);
        Object want = plain.invoke(model, arguments);
        Due.due(method.getName() + Arrays.toString(arguments) + " answered " + got + ", PlainTown " + want + ": the same",
                got.equals(want), true);
    }
}
