import java.util.ArrayList;
import java.util.List;
import java.util.Random;

/** Random runs of calls, answered by the class and by PlainTown: each answer is to be the same. */
public final class ModelTest {
    private static final int KINDS = 37;
    private static final int[] EDGES = {-1, 8, 7, 5, 60, 61, Integer.MIN_VALUE, Integer.MAX_VALUE, -2, 20, 21, 999, 1000,
        255, 256, 15, 16, 2, 3, 100};

    private final Random random;
    private final TextMaker maker;
    private final CapitalCase x = new CapitalCase();
    private final PlainTown model = new PlainTown();
    private final List<String> calls = new ArrayList<>();

    private ModelTest(long seed) {
        random = new Random(seed);
        maker = new TextMaker(random);
    }

    public static void main(String[] args) {
        int runs = args.length > 0 ? Integer.parseInt(args[0]) : 1500;
        long first = args.length > 1 ? Long.parseLong(args[1]) : 1;
        for (long seed = first; seed < first + runs; seed++) {
            new ModelTest(seed).run(seed);
        }
        Due.end();
    }

    private int under(int n) {
        return random.nextInt(n);
    }

    /** Mostly below n, some beside it. */
    private int about(int n) {
        return under(25) == 0 ? EDGES[under(EDGES.length)] : under(n);
    }

    private void run(long seed) {
        int made = 0;
        while (made < 512) {
            int kind = under(made == 0 || under(120) == 0 ? 2 : KINDS);
            if (kind < 2 && made < 480 && (kind == 0 || under(40) == 0 || made == 0)) {
                made += readText();
                for (int again = 0; again < 3 && x.count(0) == 0; again++) {
                    made += readText();
                }
            } else {
                kind = 2 + under(KINDS - 2);
                int[] a = {about(6), about(8), about(8), about(8)};
                if (!same(seed, kind, a)) {
                    return;
                }
                made++;
            }
        }
    }

    private int readText() {
        String text = maker.text();
        text = text.length() > 1500 ? text.substring(0, 1500) : text;
        int made = 0;
        for (int at = 0; at < text.length(); at += 20) {
            int[] n = new int[5];
            for (int i = 0; i < 20; i++) {
                n[i / 4] = n[i / 4] << 8 | (at + i < text.length() ? text.charAt(at + i) : ' ');
            }
            Due.due("feed", x.feed(n[0], n[1], n[2], n[3], n[4]), model.feed(n[0], n[1], n[2], n[3], n[4]));
            made++;
        }
        int blanks = (20 - text.length() % 20) % 20;
        Due.due("back", x.back(blanks), model.back(blanks));
        Due.due("read() of " + text, x.read(), model.read());
        Due.due("place() of " + text, x.place(), model.place());
        calls.add("text " + text);
        return made + 3;
    }

    private static long n(boolean b) {
        return b ? 1 : 0;
    }

    private boolean same(long seed, int kind, int[] a) {
        int w = under(20) == 0 ? about(1000) : about(12);
        boolean so = under(2) == 0;
        int set = about(256);
        int n = about(under(3) == 0 ? 61 : 4);
        int seeds = about(20);
        int what = about(2);
        long got;
        long want;
        switch (kind) {
            case 2: got = x.house(a[0], a[1], a[2]); want = model.house(a[0], a[1], a[2]); break;
            case 3: got = x.verse(a[1], a[0]); want = model.verse(a[1], a[0]); break;
            case 4: got = x.wants(a[1], a[2]); want = model.wants(a[1], a[2]); break;
            case 5: got = x.tells(a[0], a[1], a[2], what); want = model.tells(a[0], a[1], a[2], what); break;
            case 6: case 7: got = n(x.set(a[1])); want = n(model.set(a[1])); break;
            case 8: got = n(x.clear(a[1])); want = n(model.clear(a[1])); break;
            case 9: case 35: got = n(x.lend(a[0], a[3], a[1])); want = n(model.lend(a[0], a[3], a[1])); break;
            case 10: got = giveBack(a, true); want = giveBack(a, false); break;
            case 11: got = x.days(n); want = model.days(n); break;
            case 12: got = n(x.undo()); want = n(model.undo()); break;
            case 13: got = x.from(a[1], a[2]); want = model.from(a[1], a[2]); break;
            case 14: got = x.best(what); want = model.best(what); break;
            case 15: got = x.worth(a[0], a[1]); want = model.worth(a[0], a[1]); break;
            case 16: got = x.pillar(what); want = model.pillar(what); break;
            case 17: what = under(4) == 0 ? what : 2; got = x.twoDays(what); want = model.twoDays(what); break;
            case 18: got = x.loans(a[0], a[1]); want = model.loans(a[0], a[1]); break;
            case 19: got = x.bargains(what); want = model.bargains(what); break;
            case 20: got = x.strike(set); want = model.strike(set); break;
            case 21: got = x.clash(a[1]); want = model.clash(a[1]); break;
            case 22: got = x.late(); want = model.late(); break;
            case 23: got = x.wornOut(a[0], a[1]); want = model.wornOut(a[0], a[1]); break;
            case 24: got = x.then(a[0], a[1], n, what); want = model.then(a[0], a[1], n, what); break;
            case 25: got = x.paidIn(n); want = model.paidIn(n); break;
            case 26: got = x.year(a[0], a[1], n, seeds); want = model.year(a[0], a[1], n, seeds); break;
            case 27: got = x.tell(a[1], w, so); want = model.tell(a[1], w, so); break;
            case 28: got = under(9) > 0 ? 0 : x.forget(); want = got == 0 ? 0 : model.forget(); break;
            case 29: got = x.whose(a[0], what); want = model.whose(a[0], what); break;
            case 30: got = x.ask(a[0], w); want = model.ask(a[0], w); break;
            case 31: got = n(x.hold(what + a[3] % 2)); want = n(model.hold(what + a[3] % 2)); break;
            case 32: so = under(6) == 0; got = so ? n(x.restore(a[3])) : 0; want = so ? n(model.restore(a[3])) : 0; break;
            case 33: got = x.back(n); want = model.back(n); break;
            case 34: got = n(x.set(a[2])); want = n(model.set(a[2])); break;
            default: got = x.count(a[1] + a[3]); want = model.count(a[1] + a[3]); break;
        }
        calls.add("kind " + kind + " " + java.util.Arrays.toString(a) + " w " + w + " so " + so + " set " + set + " n " + n
                + " seeds " + seeds + " what " + what + " -> " + want);
        Due.due("run " + seed + " kind " + kind, got, want);
        if (got != want) {
            calls.forEach(System.out::println);
        }
        return got == want;
    }

    /** Of the pairs of houses the first between which it can be, so that it often can. */
    private long giveBack(int[] a, boolean ofClass) {
        for (int pair = 0; pair < 25; pair++) {
            boolean so = ofClass ? x.giveBack(pair / 5, pair % 5, a[1]) : model.giveBack(pair / 5, pair % 5, a[1]);
            if (so) {
                return pair;
            }
        }
        return -1;
    }
}
