import java.io.IOException;
import java.nio.charset.StandardCharsets;
import java.nio.file.Files;
import java.nio.file.Path;

/** Compares answers with what is due, and feeds texts: what every test here uses. */
final class Due {
    private static int looked = 0;
    private static int wrong = 0;
    private static String document = null;
    private static String sentence = "";
    private static int lookedAhead = 0;

    private Due() {
    }

    static void due(String call, long got, long want) {
        looked++;
        if (got != want) {
            wrong++;
            System.out.println(sentence + call + " answered " + got + ", due is " + want);
        }
    }

    /** What comes next looks at this sentence of the document; one that is not there is told, but is no fault. */
    static void of(String quote) {
        closeSentence();
        lookedAhead = looked;
        sentence = "\"" + quote + "\": ";
        if (!document().contains(quote)) {
            System.out.println("the document does not say " + sentence);
        }
    }

    private static void closeSentence() {
        if (!sentence.isEmpty() && looked == lookedAhead) {
            wrong++;
            System.out.println(sentence + "nothing was looked at");
        }
    }

    private static String document() {
        if (document == null) {
            try {
                document = Files.readString(Path.of("../shared/DOC.md")).replaceAll("\\s+", " ").replace("`", "");
            } catch (IOException e) {
                document = "";
            }
        }
        return document;
    }

    static void due(String call, boolean got, boolean want) {
        due(call, got ? 1 : 0, want ? 1 : 0);
    }

    /** Puts a text on the tape: twenty bytes at a time, then the blanks behind it are taken back. */
    static void feed(CapitalCase x, String text) {
        byte[] bytes = text.getBytes(StandardCharsets.ISO_8859_1);
        int fed = 0;
        for (; fed < bytes.length; fed += 20) {
            x.feed(four(bytes, fed), four(bytes, fed + 4), four(bytes, fed + 8), four(bytes, fed + 12),
                    four(bytes, fed + 16));
        }
        x.back(fed - bytes.length);
    }

    private static int four(byte[] bytes, int at) {
        int four = 0;
        for (int i = at; i < at + 4; i++) {
            four = four << 8 | (i < bytes.length ? bytes[i] & 255 : ' ');
        }
        return four;
    }

    /** A new object that has read a text, which is to be without a fault. */
    static CapitalCase town(String text) {
        CapitalCase x = new CapitalCase();
        feed(x, text);
        due("read() of " + text, x.read(), 0);
        return x;
    }

    static void fault(String text, int number, int place) {
        CapitalCase x = new CapitalCase();
        feed(x, text);
        due("read() of " + text, x.read(), number);
        due("place() of " + text, x.place(), place);
    }

    static void end() {
        closeSentence();
        System.out.println(looked + " answers looked at, " + wrong + " not as due");
        if (wrong != 0 || looked == 0) {
            System.exit(1);
        }
    }
}
