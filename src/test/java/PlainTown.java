import java.util.ArrayDeque;
import java.util.ArrayList;
import java.util.Arrays;
import java.util.Deque;
import java.util.HashSet;
import java.util.List;
import java.util.Set;

/**
 * The document once more, written apart from the class, as slow and as close to its words as can be:
 * what the class answers is compared with this in random runs of calls.
 */
final class PlainTown {
    /** A text's fault, told by an exception: this is a test and may. */
    private static final class Fault extends Exception {
        private static final long serialVersionUID = 1L;
        final int number;
        final int place;

        Fault(int number, int place) {
            this.number = number;
            this.place = place;
        }
    }

    private static final class Token {
        final String text;
        final int place;
        final char sort;

        Token(String text, int place, char sort) {
            this.text = text;
            this.place = place;
            this.sort = sort;
        }
    }

    private static final class DividedByZero extends Exception {
        private static final long serialVersionUID = 1L;
    }

    /** A number (op 'n'), a variable ('v'), or two parts with a sign between. */
    private static final class Tree {
        final char op;
        final int number;
        final String name;
        final Tree left;
        final Tree right;

        Tree(char op, int number, String name, Tree left, Tree right) {
            this.op = op;
            this.number = number;
            this.name = name;
            this.left = left;
            this.right = right;
        }
    }

    /** Trees by threes (less, than, then) and the last one. */
    private static final class Law {
        final List<Tree> ifs = new ArrayList<>();
        Tree last;
    }

    private static final class Verse {
        String wants;
        int value;
        int due;
    }

    private static final class Text {
        final List<String> houses = new ArrayList<>();
        final List<Verse> verses = new ArrayList<>();
        Law leave = constant(1);
        Law rank = constant(0);
        Law wears = constant(1);
        Law pays = new Law();
        int spoils = 20;
        int thieves = 0;
        int seed = 0;

        Text() {
            pays.last = new Tree('v', 0, "value", null, null);
        }

        static Law constant(int n) {
            Law law = new Law();
            law.last = new Tree('n', n, null, null, null);
            return law;
        }
    }

    private static final class State {
        int[][] has = new int[5][8];
        int[][] worn = new int[5][8];
        int[][][] lent = new int[5][5][8];
        int[][] from = new int[7][];
        boolean[] done = new boolean[7];
        int day = 0;
        int paid = 0;
        int gone = 0;

        State copy() {
            State s = new State();
            for (int h = 0; h < 5; h++) {
                s.has[h] = has[h].clone();
                s.worn[h] = worn[h].clone();
                for (int o = 0; o < 5; o++) {
                    s.lent[h][o] = lent[h][o].clone();
                }
            }
            for (int v = 0; v < 7; v++) {
                s.from[v] = from[v] == null ? null : from[v].clone();
            }
            s.done = done.clone();
            s.day = day;
            s.paid = paid;
            s.gone = gone;
            return s;
        }
    }

    private static final Set<String> WORDS = new HashSet<>(Arrays.asList("house", "verse", "leave", "rank", "wears",
            "pays", "spoils", "thieves", "seed", "if", "then", "else", "value", "due", "day", "worn", "has", "which",
            "letter", "long", "lent"));
    private static final Set<String> VARS = new HashSet<>(
            Arrays.asList("value", "due", "day", "worn", "has", "which", "letter", "long", "lent"));

    private final StringBuilder tape = new StringBuilder();
    private int place = -1;
    private Text text = new Text();
    private State now = new State();
    private final Deque<State> past = new ArrayDeque<>();
    private final State[] slots = new State[3];
    private final List<int[]> told = new ArrayList<>();

    // ---- texts ----

    int feed(int a, int b, int c, int d, int e) {
        if (tape.length() > 1980) {
            return -1;
        }
        for (int n : new int[] {a, b, c, d, e}) {
            tape.append((char) (n >>> 24)).append((char) (n >>> 16 & 255)).append((char) (n >>> 8 & 255))
                    .append((char) (n & 255));
        }
        return tape.length();
    }

    int back(int n) {
        if (n < 0 || n > tape.length()) {
            return -1;
        }
        tape.setLength(tape.length() - n);
        return tape.length();
    }

    int read() {
        String source = tape.toString();
        tape.setLength(0);
        try {
            Text read = new Reader(source).text();
            text = read;
            now = new State();
            for (int h = 0; h < text.houses.size(); h++) {
                for (char c : text.houses.get(h).toCharArray()) {
                    now.has[h][c - 'a']++;
                }
            }
            past.clear();
            told.clear();
            Arrays.fill(slots, null);
            place = -1;
            return 0;
        } catch (Fault fault) {
            place = fault.place;
            return fault.number;
        }
    }

    int place() {
        return place;
    }

    private static final class Reader {
        final String source;
        int at = 0;
        int tokens = 0;
        Token next;
        final Text text = new Text();
        final List<Fault> later = new ArrayList<>();
        final Set<String> names = new HashSet<>();

        Reader(String source) {
            this.source = source;
            scan();
        }

        void scan() {
            while (at < source.length() && "\t\n\r ".indexOf(source.charAt(at)) >= 0) {
                at++;
            }
            int start = at;
            if (at == source.length()) {
                next = new Token("", start, 'e');
                return;
            }
            String letters = run("abcdefghijklmnopqrstuvwxyz");
            String digits = letters.isEmpty() ? run("0123456789") : "";
            if (!letters.isEmpty()) {
                char sort = letters.length() > 8 ? '?' : WORDS.contains(letters) ? 'w' : 'n';
                next = new Token(letters, start, sort);
            } else if (!digits.isEmpty()) {
                next = new Token(digits, start, digits.length() > 4 ? '?' : 'i');
            } else {
                String sign = source.substring(at, at + 1);
                at++;
                next = new Token(sign, start, ";=+-*/<()".contains(sign) ? 's' : '?');
            }
        }

        String run(String of) {
            int start = at;
            while (at < source.length() && of.indexOf(source.charAt(at)) >= 0) {
                at++;
            }
            return source.substring(start, at);
        }

        Token take(boolean fits) throws Fault {
            if (!fits) {
                throw new Fault(1, next.place);
            }
            tokens++;
            if (tokens == 401) {
                throw new Fault(2, next.place);
            }
            Token taken = next;
            scan();
            return taken;
        }

        Token take(String word) throws Fault {
            return take(is(word));
        }

        boolean is(String word) {
            return (next.sort == 'w' || next.sort == 's') && next.text.equals(word);
        }

        Token sort(char sort) throws Fault {
            return take(next.sort == sort);
        }

        Text text() throws Fault {
            while (next.sort != 'e') {
                tell();
            }
            if (!later.isEmpty()) {
                throw later.get(0);
            }
            return text;
        }

        void tell() throws Fault {
            if (is("house")) {
                if (text.houses.size() == 5) {
                    throw new Fault(2, next.place);
                }
                take("house");
                name(sort('n'));
                text.houses.add(letters(sort('n')));
                take(";");
            } else if (is("verse")) {
                if (text.verses.size() == 7) {
                    throw new Fault(2, next.place);
                }
                Verse verse = new Verse();
                take("verse");
                name(sort('n'));
                verse.wants = letters(sort('n'));
                verse.value = number(sort('i'), 0, 99);
                verse.due = number(sort('i'), 0, 99);
                take(";");
                text.verses.add(verse);
            } else if (is("leave") || is("rank") || is("wears") || is("pays")) {
                String which = take(true).text;
                Law law = law();
                take(";");
                switch (which) {
                    case "leave" -> text.leave = law;
                    case "rank" -> text.rank = law;
                    case "wears" -> text.wears = law;
                    default -> text.pays = law;
                }
            } else if (is("spoils") || is("thieves") || is("seed")) {
                String which = take(true).text;
                switch (which) {
                    case "spoils" -> text.spoils = number(sort('i'), 1, 99);
                    case "thieves" -> text.thieves = number(sort('i'), 0, 100);
                    default -> text.seed = number(sort('i'), 0, 9999);
                }
                take(";");
            } else {
                throw new Fault(1, next.place);
            }
        }

        void name(Token token) {
            if (!names.add(token.text)) {
                later.add(new Fault(3, token.place));
            }
        }

        String letters(Token token) {
            if (!token.text.matches("[a-h]*")) {
                later.add(new Fault(6, token.place));
            }
            return token.text;
        }

        int number(Token token, int least, int most) {
            int n = Integer.parseInt(token.text);
            if (n < least || n > most) {
                later.add(new Fault(5, token.place));
            }
            return n;
        }

        Law law() throws Fault {
            Law law = new Law();
            take("=");
            while (is("if")) {
                if (law.ifs.size() == 12) {
                    throw new Fault(2, next.place);
                }
                take("if");
                law.ifs.add(sum(0));
                take("<");
                law.ifs.add(sum(0));
                take("then");
                law.ifs.add(sum(0));
                take("else");
            }
            law.last = sum(0);
            return law;
        }

        Tree sum(int depth) throws Fault {
            Tree tree = part(depth);
            while (is("+") || is("-")) {
                char op = take(true).text.charAt(0);
                tree = new Tree(op, 0, null, tree, part(depth));
            }
            return tree;
        }

        Tree part(int depth) throws Fault {
            Tree tree = unit(depth);
            while (is("*") || is("/")) {
                char op = take(true).text.charAt(0);
                tree = new Tree(op, 0, null, tree, unit(depth));
            }
            return tree;
        }

        Tree unit(int depth) throws Fault {
            if (is("(")) {
                if (depth == 6) {
                    throw new Fault(2, next.place);
                }
                take("(");
                Tree tree = sum(depth + 1);
                take(")");
                return tree;
            }
            if (next.sort == 'i') {
                return new Tree('n', Integer.parseInt(sort('i').text), null, null, null);
            }
            return new Tree('v', 0, take(next.sort == 'w' && VARS.contains(next.text)).text, null, null);
        }
    }

    // ---- laws ----

    private interface Vars {
        int of(String name);
    }

    private static int value(Tree t, Vars vars) throws DividedByZero {
        if (t.op == 'n') {
            return t.number;
        }
        if (t.op == 'v') {
            return vars.of(t.name);
        }
        int a = value(t.left, vars);
        int b = value(t.right, vars);
        if (t.op == '/' && b == 0) {
            throw new DividedByZero();
        }
        return (int) (t.op == '+' ? (long) a + b : t.op == '-' ? (long) a - b : t.op == '*' ? (long) a * b : (long) a / b);
    }

    private static int told(Law law, Vars vars) {
        try {
            for (int i = 0; i < law.ifs.size(); i += 3) {
                if (value(law.ifs.get(i), vars) < value(law.ifs.get(i + 1), vars)) {
                    return value(law.ifs.get(i + 2), vars);
                }
            }
            return value(law.last, vars);
        } catch (DividedByZero e) {
            return 0;
        }
    }

    private Vars vars(State s, int h, int l, int v) {
        return name -> switch (name) {
            case "value" -> v < 0 ? 0 : text.verses.get(v).value;
            case "due" -> v < 0 ? 0 : text.verses.get(v).due;
            case "long" -> v < 0 ? 0 : text.verses.get(v).wants.length();
            case "day" -> s.day;
            case "worn" -> h < 0 ? 0 : s.worn[h][l];
            case "has" -> h < 0 ? 0 : s.has[h][l];
            case "which" -> h < 0 ? 0 : h;
            case "letter" -> h < 0 ? 0 : l;
            default -> h < 0 ? 0 : lentBy(s, h, l);
        };
    }

    private int wears(State s, int h, int l) {
        return Math.min(9, Math.max(0, told(text.wears, vars(s, h, l, -1))));
    }

    private int pays(State s, int v) {
        return Math.min(99, Math.max(0, told(text.pays, vars(s, -1, 0, v))));
    }

    private static int lentBy(State s, int h, int l) {
        int n = 0;
        for (int o = 0; o < 5; o++) {
            n += s.lent[h][o][l];
        }
        return n;
    }

    private static int lot(int n, int seed, int which) {
        int h = seed;
        for (int it : new int[] {121, which}) {
            h = (int) ((long) (h ^ it) * 1103515245L + 12345L);
            h = h ^ (h >>> 15);
        }
        return (h >>> 1) % n;
    }

    // ---- what goes on ----

    private int wanted(int v, int i) {
        return text.verses.get(v).wants.charAt(i) - 'a';
    }

    private int inUse(State s, int h, int l) {
        int n = 0;
        for (int v = 0; v < text.verses.size(); v++) {
            for (int i = 0; s.from[v] != null && i < s.from[v].length; i++) {
                n += s.from[v][i] == h && wanted(v, i) == l ? 1 : 0;
            }
        }
        return n;
    }

    private int free(State s, int h, int l) {
        return Math.max(0, s.has[h][l] - inUse(s, h, l));
    }

    private boolean open(State s, int v) {
        return s.from[v] == null && !s.done[v];
    }

    /** Sets a verse in s if that can be; otherwise s stays as it is. Answers the clashes, or -2. */
    private int lay(State s, int v) {
        int size = text.verses.get(v).wants.length();
        int[] from = new int[size];
        Arrays.fill(from, -9);
        s.from[v] = from;
        int clashes = 0;
        for (int i = 0; i < size; i++) {
            int l = wanted(v, i);
            int best = -1;
            long bestRank = Long.MIN_VALUE;
            int alike = 0;
            for (int h = 0; h < text.houses.size(); h++) {
                if (free(s, h, l) < 1 || told(text.leave, vars(s, h, l, v)) <= 0) {
                    continue;
                }
                int rank = told(text.rank, vars(s, h, l, v));
                if (rank > bestRank) {
                    best = h;
                    bestRank = rank;
                    alike = 1;
                } else if (rank == bestRank) {
                    alike++;
                }
            }
            if (best < 0) {
                s.from[v] = null;
                return -2;
            }
            clashes += alike > 1 ? 1 : 0;
            from[i] = best;
        }
        return clashes;
    }

    private void day(State s, int thieves, int seed) {
        State began = s.copy();
        for (int v = 0; v < text.verses.size(); v++) {
            if (began.from[v] != null && !began.done[v]) {
                s.done[v] = true;
                s.paid += pays(began, v);
            }
        }
        for (int h = 0; h < text.houses.size(); h++) {
            for (int l = 0; l < 8; l++) {
                for (int i = 0; i < inUse(began, h, l); i++) {
                    s.worn[h][l] = Math.min(999, s.worn[h][l] + wears(began, h, l));
                }
                if (s.worn[h][l] >= text.spoils) {
                    s.worn[h][l] = 0;
                    if (s.has[h][l] > 0) {
                        s.has[h][l]--;
                        s.gone++;
                    }
                }
            }
        }
        if (lot(100, seed, 4 * s.day) < thieves) {
            int l = lot(8, seed, 4 * s.day + 1);
            int most = 0;
            for (int h = 0; h < 5; h++) {
                most = Math.max(most, s.has[h][l]);
            }
            for (int h = 0; h < 5 && most > 0; h++) {
                if (s.has[h][l] == most) {
                    s.has[h][l]--;
                    s.gone++;
                    break;
                }
            }
        }
        s.day++;
    }

    private boolean house(int h) {
        return h >= 0 && h < text.houses.size();
    }

    private boolean letter(int l) {
        return l >= 0 && l < 8;
    }

    private boolean verse(int v) {
        return v >= 0 && v < text.verses.size();
    }

    int house(int h, int l, int what) {
        if (!house(h) || !letter(l)) {
            return -1;
        }
        int lentTo = 0;
        for (int o = 0; o < 5; o++) {
            lentTo += now.lent[o][h][l];
        }
        int[] all = {now.has[h][l], inUse(now, h, l), free(now, h, l), now.worn[h][l], lentBy(now, h, l), lentTo,
            wears(now, h, l)};
        return what < 0 || what > 6 ? -1 : all[what];
    }

    int verse(int v, int what) {
        if (!verse(v) || what < 0 || what > 4) {
            return -1;
        }
        Verse verse = text.verses.get(v);
        boolean set = now.from[v] != null;
        int stands = now.done[v] ? set ? 2 : 3 : set ? 1 : 0;
        return new int[] {verse.value, verse.due, verse.wants.length(), stands, pays(now, v)}[what];
    }

    int wants(int v, int i) {
        return verse(v) && i >= 0 && i < text.verses.get(v).wants.length() ? wanted(v, i) : -1;
    }

    int tells(int h, int l, int v, int what) {
        if (!house(h) || !letter(l) || !verse(v) || what < 0 || what > 1) {
            return -1000000000;
        }
        return what == 1 ? told(text.rank, vars(now, h, l, v)) : told(text.leave, vars(now, h, l, v)) > 0 ? 1 : 0;
    }

    private void done(State before) {
        past.addLast(before);
        if (past.size() > 30) {
            past.removeFirst();
        }
    }

    boolean set(int v) {
        State before = now.copy();
        if (!verse(v) || !open(now, v) || lay(now, v) < 0) {
            return false;
        }
        done(before);
        return true;
    }

    boolean clear(int v) {
        if (!verse(v) || now.from[v] == null) {
            return false;
        }
        done(now.copy());
        now.from[v] = null;
        return true;
    }

    boolean lend(int h, int o, int l) {
        if (!house(h) || !house(o) || h == o || !letter(l) || free(now, h, l) < 1) {
            return false;
        }
        done(now.copy());
        now.has[h][l]--;
        now.has[o][l]++;
        now.lent[h][o][l]++;
        return true;
    }

    boolean giveBack(int h, int o, int l) {
        if (!house(h) || !house(o) || h == o || !letter(l) || free(now, h, l) < 1 || now.lent[o][h][l] < 1) {
            return false;
        }
        done(now.copy());
        now.has[h][l]--;
        now.has[o][l]++;
        now.lent[o][h][l]--;
        return true;
    }

    int days(int n) {
        if (n < 0 || n > 60) {
            return -1;
        }
        if (n > 0) {
            done(now.copy());
        }
        for (int i = 0; i < n; i++) {
            day(now, text.thieves, text.seed);
        }
        return now.day;
    }

    boolean undo() {
        if (past.isEmpty()) {
            return false;
        }
        now = past.removeLast();
        return true;
    }

    // ---- what would be ----

    int from(int v, int i) {
        if (wants(v, i) < 0) {
            return -1;
        }
        State s = now.copy();
        if (s.from[v] == null && s.done[v]) {
            return -3;
        }
        return s.from[v] == null && lay(s, v) < 0 ? -2 : s.from[v][i];
    }

    /** How much a set of verses brings, all set now by number; -1 if that can't be. */
    private int brings(State start, int mask, int without) {
        State s = start.copy();
        if (without >= 0) {
            for (int l = 0; l < 8; l++) {
                s.has[without][l] = Math.min(s.has[without][l], inUse(s, without, l));
            }
        }
        int sum = 0;
        for (int v = 0; v < text.verses.size(); v++) {
            if ((mask >> v & 1) == 1) {
                if (!open(s, v) || lay(s, v) < 0) {
                    return -1;
                }
                sum += pays(s, v);
            }
        }
        return sum;
    }

    private int[] best(State s, int without) {
        int most = 0;
        int which = 0;
        for (int mask = 0; mask < 1 << text.verses.size(); mask++) {
            int sum = brings(s, mask, without);
            if (sum > most) {
                most = sum;
                which = mask;
            }
        }
        return new int[] {most, which};
    }

    int best(int what) {
        return what < 0 || what > 1 ? -1 : best(now, -1)[what];
    }

    int worth(int h, int l) {
        if (!house(h) || !letter(l)) {
            return -1;
        }
        State s = now.copy();
        s.has[h][l]++;
        return best(s, -1)[0] - best(now, -1)[0];
    }

    int pillar(int what) {
        if (what < 0 || what > 1) {
            return -1;
        }
        int[] found = {-2, -2};
        for (int h = text.houses.size() - 1; h >= 0; h--) {
            int brings = best(now, h)[0];
            if (found[0] < 0 || brings <= found[1]) {
                found = new int[] {h, brings};
            }
        }
        return found[what];
    }

    int twoDays(int what) {
        if (what < 0 || what > 1) {
            return -1;
        }
        int most = -1;
        int which = 0;
        for (int mask = 0; mask < 1 << text.verses.size(); mask++) {
            if (brings(now, mask, -1) < 0) {
                continue;
            }
            State s = now.copy();
            for (int v = 0; v < 7; v++) {
                if ((mask >> v & 1) == 1) {
                    lay(s, v);
                }
            }
            day(s, 0, 0);
            for (int v = 0; v < 7; v++) {
                if ((mask >> v & 1) == 1) {
                    s.from[v] = null;
                }
            }
            int second = best(s, -1)[1];
            for (int v = 0; v < 7; v++) {
                if ((second >> v & 1) == 1) {
                    lay(s, v);
                }
            }
            day(s, 0, 0);
            if (s.paid - now.paid > most) {
                most = s.paid - now.paid;
                which = mask;
            }
        }
        return what == 0 ? most : which;
    }

    private boolean alone(State s, int h, int v) {
        for (int l = 0; l < 8; l++) {
            int need = 0;
            for (int i = 0; i < text.verses.get(v).wants.length(); i++) {
                need += wanted(v, i) == l ? 1 : 0;
            }
            if (free(s, h, l) < need) {
                return false;
            }
        }
        return true;
    }

    /** Lends piece by piece, as by hand, till each letter is there. */
    int loans(int h, int v) {
        if (!house(h) || !verse(v)) {
            return -1;
        }
        State s = now.copy();
        int loans = 0;
        for (int l = 0; l < 8; l++) {
            int need = 0;
            for (int i = 0; i < text.verses.get(v).wants.length(); i++) {
                need += wanted(v, i) == l ? 1 : 0;
            }
            while (free(s, h, l) < need) {
                int lender = 0;
                while (lender < text.houses.size() && (lender == h || free(s, lender, l) == 0)) {
                    lender++;
                }
                if (lender == text.houses.size()) {
                    return -2;
                }
                s.has[lender][l]--;
                s.has[h][l]++;
                loans++;
            }
        }
        return loans;
    }

    private int allAlone(State s, int h) {
        int n = 0;
        for (int v = 0; v < text.verses.size(); v++) {
            n += open(s, v) && alone(s, h, v) ? 1 : 0;
        }
        return n;
    }

    int bargains(int what) {
        if (what < 0 || what > 1) {
            return -1;
        }
        List<Integer> found = new ArrayList<>();
        for (int code = 0; code < 5000; code++) {
            int h = code / 1000;
            int o = code / 100 % 10;
            int x = code / 10 % 10;
            int y = code % 10;
            if (!house(h) || !house(o) || h >= o || x == y || !letter(x) || !letter(y) || free(now, h, x) < 1
                    || free(now, o, y) < 1) {
                continue;
            }
            State s = now.copy();
            s.has[h][x]--;
            s.has[o][x]++;
            s.has[o][y]--;
            s.has[h][y]++;
            if (allAlone(s, h) > allAlone(now, h) && allAlone(s, o) > allAlone(now, o)) {
                found.add(code);
            }
        }
        return what == 0 ? found.size() : found.isEmpty() ? -2 : found.get(0);
    }

    int strike(int set) {
        if (set < 0 || set > 255) {
            return -1;
        }
        int bits = 0;
        for (int v = 0; v < text.verses.size(); v++) {
            boolean struck = !open(now, v);
            for (int i = 0; i < text.verses.get(v).wants.length(); i++) {
                struck |= (set >> wanted(v, i) & 1) == 1;
            }
            bits |= struck ? 0 : 1 << v;
        }
        return bits;
    }

    int clash(int v) {
        if (!verse(v)) {
            return -1;
        }
        return open(now, v) ? lay(now.copy(), v) : -2;
    }

    int late() {
        int bits = 0;
        for (int v = 0; v < text.verses.size(); v++) {
            bits |= open(now, v) && text.verses.get(v).due < now.day ? 1 << v : 0;
        }
        return bits;
    }

    int wornOut(int h, int l) {
        if (!house(h) || !letter(l)) {
            return -1;
        }
        State s = now.copy();
        for (int n = 1; n <= 200; n++) {
            int had = s.has[h][l];
            day(s, 0, 0);
            if (s.has[h][l] < had) {
                return n;
            }
        }
        return -2;
    }

    private State in(int n, int seed) {
        State s = now.copy();
        for (int i = 0; i < n; i++) {
            day(s, text.thieves, seed);
        }
        return s;
    }

    int then(int h, int l, int n, int what) {
        if (!house(h) || !letter(l) || n < 0 || n > 60 || what < 0 || what > 1) {
            return -1;
        }
        State s = in(n, text.seed);
        return what == 0 ? s.has[h][l] : s.worn[h][l];
    }

    int paidIn(int n) {
        return n < 0 || n > 60 ? -1 : in(n, text.seed).paid - now.paid;
    }

    int year(int h, int l, int n, int s) {
        if (!house(h) || !letter(l) || n < 0 || n > 60 || s < 1 || s > 20) {
            return -1;
        }
        int count = 0;
        for (int seed = text.seed; seed < text.seed + s; seed++) {
            count += in(n, seed).has[h][l] > 0 ? 1 : 0;
        }
        return count;
    }

    // ---- prints ----

    int tell(int l, int w, boolean so) {
        if (!letter(l) || w < 0 || w > 999 || told.size() == 20) {
            return -1;
        }
        told.add(new int[] {l, w, so ? 1 : 0});
        return told.size() - 1;
    }

    int forget() {
        int n = told.size();
        told.clear();
        return n;
    }

    private Set<Integer> whose(List<int[]> known) {
        Set<Integer> left = new HashSet<>();
        for (int h = 0; h < text.houses.size(); h++) {
            boolean all = true;
            for (int[] one : known) {
                all &= (now.worn[h][one[0]] >= one[1]) == (one[2] == 1);
            }
            if (all) {
                left.add(h);
            }
        }
        return left;
    }

    int whose(int k, int what) {
        if (k < 0 || k > told.size() || what < 0 || what > 1) {
            return -1;
        }
        Set<Integer> left = whose(told.subList(0, k));
        return what == 0 ? left.size() : left.stream().mapToInt(h -> 1 << h).sum();
    }

    int ask(int k, int w) {
        if (k < 0 || k > told.size() || w < 0 || w > 999) {
            return -1;
        }
        if (whose(told.subList(0, k)).isEmpty()) {
            return -2;
        }
        int asked = -1;
        int fewest = 99;
        for (int l = 0; l < 8; l++) {
            int worst = 0;
            for (int so = 0; so < 2; so++) {
                List<int[]> known = new ArrayList<>(told.subList(0, k));
                known.add(new int[] {l, w, so});
                worst = Math.max(worst, whose(known).size());
            }
            if (worst < fewest) {
                fewest = worst;
                asked = l;
            }
        }
        return asked;
    }

    // ---- held ----

    boolean hold(int slot) {
        if (slot < 0 || slot > 2) {
            return false;
        }
        slots[slot] = now.copy();
        return true;
    }

    boolean restore(int slot) {
        if (slot < 0 || slot > 2 || slots[slot] == null) {
            return false;
        }
        now = slots[slot].copy();
        past.clear();
        return true;
    }

    int count(int what) {
        int sum = 0;
        switch (what) {
            case 0:
                return text.houses.size();
            case 1:
                return text.verses.size();
            case 2:
                return now.day;
            case 3:
                return now.paid;
            case 4:
            case 5:
            case 14:
                for (int v = 0; v < text.verses.size(); v++) {
                    boolean so = what == 4 ? now.from[v] != null
                            : what == 5 ? now.done[v] : open(now, v) && lay(now.copy(), v) >= 0;
                    sum |= so ? 1 << v : 0;
                }
                return sum;
            case 6:
            case 7:
            case 15:
                for (int h = 0; h < 5; h++) {
                    for (int l = 0; l < 8; l++) {
                        sum += what == 6 ? now.has[h][l] : what == 7 ? inUse(now, h, l) : lentBy(now, h, l);
                    }
                }
                return sum;
            case 8:
                return now.gone;
            case 9:
                return tape.length();
            case 10:
                return past.size();
            case 11:
                return told.size();
            case 12:
                for (State slot : slots) {
                    sum += slot != null ? 1 : 0;
                }
                return sum;
            case 13:
                return lot(100, text.seed, 4 * now.day) < text.thieves ? 1 : 0;
            default:
                return -1;
        }
    }
}
