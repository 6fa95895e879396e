import java.nio.charset.StandardCharsets;

/** Compares answers with what is due, and feeds texts: what every test here uses. */
final class Due {
    private static int looked = 0;
    private static int wrong = 0;

    private Due() {
    }

    static void due(String call, long got, long want) {
        looked++;
        if (got != want) {
            wrong++;
            System.out.println(call + " answered " + got + ", due is " + want);
        }
    }

    static void due(String call, boolean got, boolean want) {
        due(call, got ? 1 : 0, want ? 1 : 0);
    }

    /** Puts a text on the tape: twenty bytes at a time, then the blanks behind it are taken back. */
    static void feed(CapitalCase x, String text) {
        byte[] bytes = text.getBytes(StandardCharsets.ISO_8859_1);
        int fed = 0;
        for (; fed < bytes.length; fed += 20) {
            x.feed(four(bytes, fed), four(bytes, fed + 4), four(bytes, fed + 8), four(bytes, fed + 12),
                    four(bytes, fed + 16));
        }
        x.back(fed - bytes.length);
    }

    private static int four(byte[] bytes, int at) {
        int four = 0;
        for (int i = at; i < at + 4; i++) {
            four = four << 8 | (i < bytes.length ? bytes[i] & 255 : ' ');
        }
        return four;
    }

    /** A new object that has read a text, which is to be without a fault. */
    static CapitalCase town(String text) {
        CapitalCase x = new CapitalCase();
        feed(x, text);
        due("read() of " + text, x.read(), 0);
        return x;
    }

    static void fault(String text, int number, int place) {
        CapitalCase x = new CapitalCase();
        feed(x, text);
        due("read() of " + text, x.read(), number);
        due("place() of " + text, x.place(), place);
    }

    static void end() {
        System.out.println(looked + " answers looked at, " + wrong + " not as due");
        if (wrong != 0 || looked == 0) {
            System.exit(1);
        }
    }
}
