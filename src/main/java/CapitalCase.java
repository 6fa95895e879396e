import java.util.Arrays;

/** A printing town in which capitals are held by houses: see ../shared/DOC.md for what each call promises. */
public final class CapitalCase {
    public static final int NONE = -1;

    private static final int HOUSES = 5;
    private static final int LETTERS = 8;
    private static final int CELLS = HOUSES * LETTERS;
    private static final int VERSES = 7;
    private static final int WANTED = 8;
    private static final int MOST_DAYS = 60;
    private static final int MOST_SEEDS = 20;
    private static final int MOST_WEAR = 999;
    private static final int NO_SUCH_LAW = -1000000000;

    private static final int TAPE = 2000;
    private static final int FED = 20;
    private static final int SLOTS = 3;

    private final byte[] tape = new byte[TAPE];
    private int tapeSize = 0;
    private int faultPlace = NONE;

    private final Script script = new Script();
    private final Parser parser = new Parser(tape);
    private final Town town = new Town();
    private final Town scratch = new Town();
    private final History history = new History();
    private final Town[] slots = new Town[SLOTS];
    private final boolean[] held = new boolean[SLOTS];
    private final Prints prints = new Prints();

    private final Judge judge = new Judge(script);
    private final Press press = new Press(script, judge);
    private final Planner planner = new Planner(script, judge);
    private final TwoDays pairOfDays = new TwoDays(script, judge, press, planner);
    private final Trade trade = new Trade(script);

    public CapitalCase() {
    }

    // ---- the tape ----

    public int feed(int a, int b, int c, int d, int e) {
        if (tapeSize + FED > TAPE) {
            return NONE;
        }
        append(a);
        append(b);
        append(c);
        append(d);
        append(e);
        return tapeSize;
    }

    private void append(int four) {
        for (int shift = 24; shift >= 0 && tapeSize < TAPE; shift -= 8) {
            tape[tapeSize] = (byte) (four >>> shift);
            tapeSize++;
        }
    }

    public int back(int n) {
        if (n < 0 || n > tapeSize) {
            return NONE;
        }
        tapeSize -= n;
        return tapeSize;
    }

    public int read() {
        int fault = parser.parse(tapeSize);
        tapeSize = 0;
        faultPlace = fault == 0 ? NONE : parser.faultAt;
        if (fault == 0) {
            script.become(parser.script);
            beginAnew();
        }
        return fault;
    }

    private void beginAnew() {
        town.begin(script);
        history.count = 0;
        prints.count = 0;
        for (int slot = 0; slot < SLOTS; slot++) {
            held[slot] = false;
        }
    }

    public int place() {
        return faultPlace;
    }

    // ---- what is ----

    private boolean isHouse(int house) {
        return house >= 0 && house < script.houses;
    }

    private boolean isCell(int house, int letter) {
        return isHouse(house) && letter >= 0 && letter < LETTERS;
    }

    private boolean isVerse(int verse) {
        return verse >= 0 && verse < script.verses;
    }

    private boolean isOpen(int verse) {
        return (town.open(script.verses) >> verse & 1) == 1;
    }

    public int house(int house, int letter, int what) {
        if (!isCell(house, letter)) {
            return NONE;
        }
        int cell = house * LETTERS + letter;
        switch (what) {
            case 0:
                return town.has[cell];
            case 1:
                return town.used[cell];
            case 2:
                return town.free(cell);
            case 3:
                return town.worn[cell];
            case 4:
                return town.lentBy(house, letter);
            case 5:
                return town.lentTo(house, letter);
            case 6:
                return judge.wears(town, house, letter);
            default:
                return NONE;
        }
    }

    public int verse(int verse, int what) {
        if (!isVerse(verse)) {
            return NONE;
        }
        switch (what) {
            case 0:
                return script.value[verse];
            case 1:
                return script.due[verse];
            case 2:
                return script.wide[verse];
            case 3:
                return standOf(verse);
            case 4:
                return judge.pays(verse, town.day);
            default:
                return NONE;
        }
    }

    private int standOf(int verse) {
        boolean isSet = (town.set >> verse & 1) == 1;
        boolean isDone = (town.done >> verse & 1) == 1;
        if (isDone) {
            return isSet ? 2 : 3;
        }
        return isSet ? 1 : 0;
    }

    public int wants(int verse, int i) {
        if (!isVerse(verse) || i < 0 || i >= script.wide[verse]) {
            return NONE;
        }
        return script.wanted[verse * WANTED + i];
    }

    public int tells(int house, int letter, int verse, int what) {
        if (!isCell(house, letter) || !isVerse(verse)) {
            return NO_SUCH_LAW;
        }
        switch (what) {
            case 0:
                return judge.givesLeave(town, house, letter, verse) ? 1 : 0;
            case 1:
                return judge.rank(town, house, letter, verse);
            default:
                return NO_SUCH_LAW;
        }
    }

    // ---- what is done ----

    public boolean set(int verse) {
        if (!isVerse(verse) || !isOpen(verse) || !couldBeSet(verse)) {
            return false;
        }
        history.keep(town);
        town.lay(script, verse, planner.picks);
        return true;
    }

    /** Leaves in planner by whom, and with how many clashes. */
    private boolean couldBeSet(int verse) {
        planner.prepare(town, 1 << verse);
        return planner.take(verse);
    }

    public boolean clear(int verse) {
        if (!isVerse(verse) || (town.set >> verse & 1) == 0) {
            return false;
        }
        history.keep(town);
        town.lift(script, verse);
        return true;
    }

    public boolean lend(int house, int other, int letter) {
        if (!isCell(house, letter) || !isCell(other, letter) || house == other
                || town.free(house * LETTERS + letter) == 0) {
            return false;
        }
        history.keep(town);
        town.move(house, other, letter);
        town.lent[(house * HOUSES + other) * LETTERS + letter]++;
        return true;
    }

    public boolean giveBack(int house, int other, int letter) {
        if (!isCell(house, letter) || !isCell(other, letter) || house == other) {
            return false;
        }
        int loan = (other * HOUSES + house) * LETTERS + letter;
        if (town.lent[loan] == 0 || town.free(house * LETTERS + letter) == 0) {
            return false;
        }
        history.keep(town);
        town.move(house, other, letter);
        town.lent[loan]--;
        return true;
    }

    public int days(int n) {
        if (n < 0 || n > MOST_DAYS) {
            return NONE;
        }
        if (n > 0) {
            history.keep(town);
            press.passDays(town, n, script.seed);
        }
        return town.day;
    }

    public boolean undo() {
        return history.takeBack(town);
    }

    // ---- what would be ----

    public int from(int verse, int i) {
        if (wants(verse, i) == NONE) {
            return NONE;
        }
        switch (standOf(verse)) {
            case 0:
                return couldBeSet(verse) ? planner.picks[verse * WANTED + i] : -2;
            case 3:
                return -3;
            default:
                return town.from[verse * WANTED + i];
        }
    }

    public int best(int what) {
        if (what < 0 || what > 1) {
            return NONE;
        }
        planner.seek(town);
        return what == 0 ? planner.most : planner.mask;
    }

    public int worth(int house, int letter) {
        if (!isCell(house, letter)) {
            return NONE;
        }
        scratch.become(town);
        scratch.has[house * LETTERS + letter]++;
        planner.seek(scratch);
        int withIt = planner.most;
        planner.seek(town);
        return withIt - planner.most;
    }

    public int pillar(int what) {
        if (what < 0 || what > 1) {
            return NONE;
        }
        int pillar = -2;
        int least = -2;
        for (int house = 0; house < script.houses; house++) {
            planner.seekWithout(town, house);
            if (house == 0 || planner.most < least) {
                pillar = house;
                least = planner.most;
            }
        }
        return what == 0 ? pillar : least;
    }

    public int twoDays(int what) {
        if (what < 0 || what > 1) {
            return NONE;
        }
        pairOfDays.seek(town);
        return what == 0 ? pairOfDays.most : pairOfDays.mask;
    }

    public int loans(int house, int verse) {
        if (!isHouse(house) || !isVerse(verse)) {
            return NONE;
        }
        return trade.loansFor(town, house, verse);
    }

    public int bargains(int what) {
        if (what < 0 || what > 1) {
            return NONE;
        }
        trade.seekBargains(town);
        return what == 0 ? trade.bargains : trade.first;
    }

    public int strike(int set) {
        if (set < 0 || set > 255) {
            return NONE;
        }
        int sayable = town.open(script.verses);
        for (int verse = 0; verse < script.verses; verse++) {
            if ((script.lettersOf(verse) & set) != 0) {
                sayable &= ~(1 << verse);
            }
        }
        return sayable;
    }

    public int clash(int verse) {
        if (!isVerse(verse)) {
            return NONE;
        }
        return isOpen(verse) && couldBeSet(verse) ? planner.clashes : -2;
    }

    public int late() {
        int late = town.open(script.verses);
        for (int verse = 0; verse < script.verses; verse++) {
            if (script.due[verse] >= town.day) {
                late &= ~(1 << verse);
            }
        }
        return late;
    }

    public int wornOut(int house, int letter) {
        if (!isCell(house, letter)) {
            return NONE;
        }
        scratch.become(town);
        return press.daysTillWornOut(scratch, house, letter);
    }

    public int then(int house, int letter, int n, int what) {
        if (!isCell(house, letter) || n < 0 || n > MOST_DAYS || what < 0 || what > 1) {
            return NONE;
        }
        scratch.become(town);
        press.passDays(scratch, n, script.seed);
        int cell = house * LETTERS + letter;
        return what == 0 ? scratch.has[cell] : scratch.worn[cell];
    }

    public int paidIn(int n) {
        if (n < 0 || n > MOST_DAYS) {
            return NONE;
        }
        scratch.become(town);
        press.passDays(scratch, n, script.seed);
        return scratch.paid - town.paid;
    }

    public int year(int house, int letter, int n, int s) {
        if (!isCell(house, letter) || n < 0 || n > MOST_DAYS || s < 1 || s > MOST_SEEDS) {
            return NONE;
        }
        int having = 0;
        for (int i = 0; i < s; i++) {
            scratch.become(town);
            press.passDays(scratch, n, script.seed + i);
            if (scratch.has[house * LETTERS + letter] > 0) {
                having++;
            }
        }
        return having;
    }

    // ---- whose print it is ----

    public int tell(int letter, int w, boolean so) {
        if (letter < 0 || letter >= LETTERS || w < 0 || w > MOST_WEAR) {
            return NONE;
        }
        return prints.note(letter, w, so);
    }

    public int forget() {
        int there = prints.count;
        prints.count = 0;
        return there;
    }

    public int whose(int k, int what) {
        if (k < 0 || k > prints.count || what < 0 || what > 1) {
            return NONE;
        }
        int left = prints.left(town, script.houses, k);
        return what == 0 ? Integer.bitCount(left) : left;
    }

    public int ask(int k, int w) {
        if (k < 0 || k > prints.count || w < 0 || w > MOST_WEAR) {
            return NONE;
        }
        return prints.letterToAsk(town, prints.left(town, script.houses, k), w);
    }

    // ---- what is held ----

    public boolean hold(int slot) {
        if (slot < 0 || slot >= SLOTS) {
            return false;
        }
        if (slots[slot] == null) {
            slots[slot] = new Town();
        }
        slots[slot].become(town);
        held[slot] = true;
        return true;
    }

    public boolean restore(int slot) {
        if (slot < 0 || slot >= SLOTS || !held[slot] || slots[slot] == null) {
            return false;
        }
        town.become(slots[slot]);
        history.count = 0;
        return true;
    }

    public int count(int what) {
        switch (what) {
            case 0:
                return script.houses;
            case 1:
                return script.verses;
            case 2:
                return town.day;
            case 3:
                return town.paid;
            case 4:
                return town.set;
            case 5:
                return town.done;
            case 6:
                return sum(town.has);
            case 7:
                return sum(town.used);
            case 8:
                return town.gone;
            case 9:
                return tapeSize;
            case 10:
                return history.count;
            case 11:
                return prints.count;
            case 12:
                return heldSlots();
            case 13:
                return press.thievesCome(script.seed, town.day) ? 1 : 0;
            case 14:
                return settable();
            case 15:
                return sum(town.lent);
            default:
                return NONE;
        }
    }

    private static int sum(int[] row) {
        int sum = 0;
        for (int number : row) {
            sum += number;
        }
        return sum;
    }

    private int heldSlots() {
        int count = 0;
        for (int slot = 0; slot < SLOTS; slot++) {
            if (held[slot]) {
                count++;
            }
        }
        return count;
    }

    private int settable() {
        int bits = 0;
        for (int verse = 0; verse < script.verses; verse++) {
            if (isOpen(verse) && couldBeSet(verse)) {
                bits |= 1 << verse;
            }
        }
        return bits;
    }

    /** What a text tells; its laws as steps of a stack machine, so that no tree has to be made. */
    private static final class Script {
        static final int LAWS = 4;
        static final int LEAVE = 0;
        static final int RANK = 1;
        static final int WEARS = 2;
        static final int PAYS = 3;

        static final int PUSH_INT = 0;
        static final int PUSH_VAR = 1;
        static final int ADD = 2;
        static final int SUBTRACT = 3;
        static final int MULTIPLY = 4;
        static final int DIVIDE = 5;
        static final int SKIP_UNLESS_LESS = 6;
        static final int ANSWER = 7;

        /** A token makes one step at most; the four laws that are there untold make eight. */
        static final int STEPS = Tokens.MOST + 2 * LAWS;

        int houses;
        int verses;
        int spoils;
        int thieves;
        int seed;
        final int[] pieces = new int[CELLS];
        final int[] value = new int[VERSES];
        final int[] due = new int[VERSES];
        final int[] wide = new int[VERSES];
        final int[] wanted = new int[VERSES * WANTED];
        final int[] needs = new int[VERSES * LETTERS];
        final int[] lawStart = new int[LAWS];
        final int[] step = new int[STEPS];
        final int[] operand = new int[STEPS];
        int steps;

        Script() {
            wipe();
        }

        void wipe() {
            houses = 0;
            verses = 0;
            spoils = 20;
            thieves = 0;
            seed = 0;
            Arrays.fill(pieces, 0);
            Arrays.fill(needs, 0);
            steps = 0;
            layDown(LEAVE, PUSH_INT, 1);
            layDown(RANK, PUSH_INT, 0);
            layDown(WEARS, PUSH_INT, 1);
            layDown(PAYS, PUSH_VAR, Judge.VALUE);
        }

        private void layDown(int law, int push, int what) {
            lawStart[law] = steps;
            add(push, what);
            add(ANSWER, 0);
        }

        void add(int what, int with) {
            if (steps < STEPS) {
                step[steps] = what;
                operand[steps] = with;
                steps++;
            }
        }

        /** A skip goes to the step that comes next now. */
        void leadOn(int skip) {
            if (skip >= 0 && skip < STEPS) {
                operand[skip] = steps;
            }
        }

        void become(Script other) {
            houses = other.houses;
            verses = other.verses;
            spoils = other.spoils;
            thieves = other.thieves;
            seed = other.seed;
            steps = other.steps;
            System.arraycopy(other.pieces, 0, pieces, 0, CELLS);
            System.arraycopy(other.value, 0, value, 0, VERSES);
            System.arraycopy(other.due, 0, due, 0, VERSES);
            System.arraycopy(other.wide, 0, wide, 0, VERSES);
            System.arraycopy(other.wanted, 0, wanted, 0, VERSES * WANTED);
            System.arraycopy(other.needs, 0, needs, 0, VERSES * LETTERS);
            System.arraycopy(other.lawStart, 0, lawStart, 0, LAWS);
            System.arraycopy(other.step, 0, step, 0, STEPS);
            System.arraycopy(other.operand, 0, operand, 0, STEPS);
        }

        int lettersOf(int verse) {
            int letters = 0;
            for (int letter = 0; letter < LETTERS; letter++) {
                if (needs[verse * LETTERS + letter] > 0) {
                    letters |= 1 << letter;
                }
            }
            return letters;
        }
    }

    /** The tokens of a text, up to the first one with which it is surely refused. */
    private static final class Tokens {
        static final int MOST = 400;
        static final int LONGEST_NAME = 8;
        static final int LONGEST_INT = 4;

        static final int END = 0;
        static final int NO_TOKEN = 1;
        static final int NAME = 2;
        static final int INT = 3;
        /** A sign's kind is its byte; a word's kind is this and its number in WORDS. */
        static final int WORD = 128;
        static final String SIGNS = ";=+-*/<()";
        static final String WORDS = "house   verse   leave   rank    wears   pays    spoils  thieves seed    if      then    else    value   due     day     worn    has     which   letter  long    lent    ";
        static final int WORD_COUNT = 21;
        static final int HOUSE = WORD;
        static final int VERSE = WORD + 1;
        static final int LEAVE = WORD + 2;
        static final int RANK = WORD + 3;
        static final int WEARS = WORD + 4;
        static final int PAYS = WORD + 5;
        static final int SPOILS = WORD + 6;
        static final int THIEVES = WORD + 7;
        static final int SEED = WORD + 8;
        static final int IF = WORD + 9;
        static final int THEN = WORD + 10;
        static final int ELSE = WORD + 11;
        static final int FIRST_VAR = WORD + 12;

        final int[] kind = new int[MOST + 1];
        final int[] place = new int[MOST + 1];
        final int[] size = new int[MOST + 1];

        void scan(byte[] tape, int length) {
            int at = 0;
            for (int token = 0; token <= MOST; token++) {
                while (at < length && isBlank(tape[at])) {
                    at++;
                }
                place[token] = at;
                size[token] = at < length ? sizeAt(tape, length, at) : 0;
                kind[token] = at < length ? kindOf(tape, at, size[token]) : END;
                if (kind[token] == END || kind[token] == NO_TOKEN) {
                    return;
                }
                at += size[token];
            }
        }

        private static boolean isBlank(int sign) {
            return sign == 9 || sign == 10 || sign == 13 || sign == 32;
        }

        private static boolean isLower(int sign) {
            return sign >= 'a' && sign <= 'z';
        }

        private static boolean isDigit(int sign) {
            return sign >= '0' && sign <= '9';
        }

        private static int sizeAt(byte[] tape, int length, int start) {
            boolean lower = isLower(tape[start]);
            if (!lower && !isDigit(tape[start])) {
                return 1;
            }
            int end = start + 1;
            while (end < length && (lower ? isLower(tape[end]) : isDigit(tape[end]))) {
                end++;
            }
            return end - start;
        }

        private static int kindOf(byte[] tape, int start, int size) {
            int sign = tape[start];
            if (isLower(sign)) {
                return size > LONGEST_NAME ? NO_TOKEN : wordOrName(tape, start, size);
            }
            if (isDigit(sign)) {
                return size > LONGEST_INT ? NO_TOKEN : INT;
            }
            return sign > 0 && SIGNS.indexOf((char) sign) >= 0 ? sign : NO_TOKEN;
        }

        private static int wordOrName(byte[] tape, int start, int size) {
            for (int word = 0; word < WORD_COUNT; word++) {
                if (isWord(word, tape, start, size)) {
                    return WORD + word;
                }
            }
            return NAME;
        }

        private static boolean isWord(int word, byte[] tape, int start, int size) {
            for (int i = 0; i < LONGEST_NAME; i++) {
                int sign = i < size ? tape[start + i] : ' ';
                if (WORDS.charAt(word * LONGEST_NAME + i) != sign) {
                    return false;
                }
            }
            return true;
        }
    }

    /** Reads a text into a script of its own, so that a fault leaves the script in use as it was. */
    private static final class Parser {
        static final int SYNTAX = 1;
        static final int ROOM = 2;
        static final int TWICE = 3;
        static final int WRONG = 5;
        static final int NOT_LETTERS = 6;
        static final int MOST_IFS = 4;
        static final int DEEPEST = 6;

        final Script script = new Script();
        final Tokens tokens = new Tokens();
        final byte[] text;
        int at;
        int fault;
        int faultAt;
        /** The first fault of those that count only in a text without SYNTAX and ROOM. */
        int laterFault;
        int laterFaultAt;
        final int[] names = new int[HOUSES + VERSES];
        int nameCount;

        Parser(byte[] text) {
            this.text = text;
        }

        /** 0, or the number of the fault, which is at faultAt. */
        int parse(int length) {
            script.wipe();
            tokens.scan(text, length);
            at = 0;
            fault = 0;
            laterFault = 0;
            nameCount = 0;
            for (int i = 0; i <= Tokens.MOST && fault == 0 && next() != Tokens.END; i++) {
                switch (next()) {
                    case Tokens.HOUSE:
                        parseHouse();
                        break;
                    case Tokens.VERSE:
                        parseVerse();
                        break;
                    case Tokens.LEAVE:
                        parseLaw(Script.LEAVE);
                        break;
                    case Tokens.RANK:
                        parseLaw(Script.RANK);
                        break;
                    case Tokens.WEARS:
                        parseLaw(Script.WEARS);
                        break;
                    case Tokens.PAYS:
                        parseLaw(Script.PAYS);
                        break;
                    case Tokens.SPOILS:
                    case Tokens.THIEVES:
                    case Tokens.SEED:
                        parseNumber(next());
                        break;
                    default:
                        fail(SYNTAX);
                        break;
                }
            }
            if (fault == 0) {
                fault = laterFault;
                faultAt = laterFaultAt;
            }
            return fault;
        }

        private int next() {
            return at <= Tokens.MOST ? tokens.kind[at] : Tokens.END;
        }

        private boolean fail(int number) {
            fault = number;
            faultAt = at <= Tokens.MOST ? tokens.place[at] : 0;
            return false;
        }

        private boolean accept(int kind) {
            if (next() != kind) {
                return fail(SYNTAX);
            }
            if (at >= Tokens.MOST) {
                return fail(ROOM);
            }
            at++;
            return true;
        }

        private void noteLater(boolean wrong, int number, int token) {
            if (wrong && laterFault == 0) {
                laterFault = number;
                laterFaultAt = tokens.place[token];
            }
        }

        private void parseHouse() {
            if (script.houses >= HOUSES) {
                fail(ROOM);
                return;
            }
            int first = at;
            if (!accept(Tokens.HOUSE) || !accept(Tokens.NAME) || !accept(Tokens.NAME) || !accept(';')) {
                return;
            }
            noteName(first + 1);
            noteLater(!areLetters(first + 2), NOT_LETTERS, first + 2);
            for (int i = 0; i < tokens.size[first + 2]; i++) {
                int letter = letterOf(first + 2, i);
                if (letter >= 0 && letter < LETTERS) {
                    script.pieces[script.houses * LETTERS + letter]++;
                }
            }
            script.houses++;
        }

        private void parseVerse() {
            if (script.verses >= VERSES) {
                fail(ROOM);
                return;
            }
            int first = at;
            if (!accept(Tokens.VERSE) || !accept(Tokens.NAME) || !accept(Tokens.NAME) || !accept(Tokens.INT)
                    || !accept(Tokens.INT) || !accept(';')) {
                return;
            }
            noteName(first + 1);
            noteLater(!areLetters(first + 2), NOT_LETTERS, first + 2);
            int verse = script.verses;
            script.value[verse] = intOf(first + 3, 0, 99);
            script.due[verse] = intOf(first + 4, 0, 99);
            script.wide[verse] = tokens.size[first + 2];
            for (int i = 0; i < WANTED && i < script.wide[verse]; i++) {
                int letter = letterOf(first + 2, i);
                if (letter >= 0 && letter < LETTERS) {
                    script.wanted[verse * WANTED + i] = letter;
                    script.needs[verse * LETTERS + letter]++;
                }
            }
            script.verses++;
        }

        private void parseNumber(int word) {
            int first = at;
            if (!accept(word) || !accept(Tokens.INT) || !accept(';')) {
                return;
            }
            if (word == Tokens.SPOILS) {
                script.spoils = intOf(first + 1, 1, 99);
            } else if (word == Tokens.THIEVES) {
                script.thieves = intOf(first + 1, 0, 100);
            } else {
                script.seed = intOf(first + 1, 0, 9999);
            }
        }

        private void noteName(int token) {
            for (int i = 0; i < nameCount; i++) {
                noteLater(isSame(names[i], token), TWICE, token);
            }
            if (nameCount < names.length) {
                names[nameCount] = token;
                nameCount++;
            }
        }

        private boolean isSame(int token, int other) {
            if (tokens.size[token] != tokens.size[other]) {
                return false;
            }
            for (int i = 0; i < tokens.size[token]; i++) {
                if (text[tokens.place[token] + i] != text[tokens.place[other] + i]) {
                    return false;
                }
            }
            return true;
        }

        private boolean areLetters(int token) {
            for (int i = 0; i < tokens.size[token]; i++) {
                if (letterOf(token, i) >= LETTERS) {
                    return false;
                }
            }
            return true;
        }

        private int letterOf(int token, int i) {
            return text[tokens.place[token] + i] - 'a';
        }

        private int intOf(int token, int least, int most) {
            int number = 0;
            for (int i = 0; i < tokens.size[token]; i++) {
                number = number * 10 + text[tokens.place[token] + i] - '0';
            }
            noteLater(number < least || number > most, WRONG, token);
            return number;
        }

        private void parseLaw(int law) {
            int start = script.steps;
            if (!accept(next()) || !accept('=')) {
                return;
            }
            for (int ifs = 0; next() == Tokens.IF; ifs++) {
                if (ifs >= MOST_IFS) {
                    fail(ROOM);
                    return;
                }
                if (!accept(Tokens.IF) || !parseSum(0) || !accept('<') || !parseSum(0)) {
                    return;
                }
                int skip = script.steps;
                script.add(Script.SKIP_UNLESS_LESS, 0);
                if (!accept(Tokens.THEN) || !parseSum(0) || !accept(Tokens.ELSE)) {
                    return;
                }
                script.add(Script.ANSWER, 0);
                script.leadOn(skip);
            }
            if (!parseSum(0) || !accept(';')) {
                return;
            }
            script.add(Script.ANSWER, 0);
            script.lawStart[law] = start;
        }

        private boolean parseSum(int depth) {
            if (!parsePart(depth)) {
                return false;
            }
            for (int i = 0; i < Tokens.MOST && (next() == '+' || next() == '-'); i++) {
                int sign = next();
                if (!accept(sign) || !parsePart(depth)) {
                    return false;
                }
                script.add(sign == '+' ? Script.ADD : Script.SUBTRACT, 0);
            }
            return true;
        }

        private boolean parsePart(int depth) {
            if (!parseUnit(depth)) {
                return false;
            }
            for (int i = 0; i < Tokens.MOST && (next() == '*' || next() == '/'); i++) {
                int sign = next();
                if (!accept(sign) || !parseUnit(depth)) {
                    return false;
                }
                script.add(sign == '*' ? Script.MULTIPLY : Script.DIVIDE, 0);
            }
            return true;
        }

        private boolean parseUnit(int depth) {
            int kind = next();
            if (kind == '(') {
                return depth >= DEEPEST ? fail(ROOM) : accept('(') && parseSum(depth + 1) && accept(')');
            }
            if (kind == Tokens.INT) {
                script.add(Script.PUSH_INT, intOf(at, 0, 9999));
                return accept(kind);
            }
            if (kind >= Tokens.FIRST_VAR) {
                script.add(Script.PUSH_VAR, kind - Tokens.FIRST_VAR);
                return accept(kind);
            }
            return fail(SYNTAX);
        }
    }

    /** All that goes on. A cell is a house's letter: house * LETTERS + letter. */
    private static final class Town {
        final int[] has = new int[CELLS];
        final int[] used = new int[CELLS];
        final int[] worn = new int[CELLS];
        /** Of a house, to another, of a letter: (house * HOUSES + other) * LETTERS + letter. */
        final int[] lent = new int[HOUSES * CELLS];
        final int[] from = new int[VERSES * WANTED];
        int set;
        int done;
        int day;
        int paid;
        int gone;

        void begin(Script script) {
            System.arraycopy(script.pieces, 0, has, 0, CELLS);
            Arrays.fill(used, 0);
            Arrays.fill(worn, 0);
            Arrays.fill(lent, 0);
            set = 0;
            done = 0;
            day = 0;
            paid = 0;
            gone = 0;
        }

        void become(Town other) {
            System.arraycopy(other.has, 0, has, 0, CELLS);
            System.arraycopy(other.used, 0, used, 0, CELLS);
            System.arraycopy(other.worn, 0, worn, 0, CELLS);
            System.arraycopy(other.lent, 0, lent, 0, HOUSES * CELLS);
            System.arraycopy(other.from, 0, from, 0, VERSES * WANTED);
            set = other.set;
            done = other.done;
            day = other.day;
            paid = other.paid;
            gone = other.gone;
        }

        /** What is gone may still be in use, so fewer than none could be left. */
        int free(int cell) {
            return Math.max(0, has[cell] - used[cell]);
        }

        int lentBy(int house, int letter) {
            int sum = 0;
            for (int other = 0; other < HOUSES; other++) {
                sum += lent[(house * HOUSES + other) * LETTERS + letter];
            }
            return sum;
        }

        int lentTo(int house, int letter) {
            int sum = 0;
            for (int other = 0; other < HOUSES; other++) {
                sum += lent[(other * HOUSES + house) * LETTERS + letter];
            }
            return sum;
        }

        int open(int verses) {
            return (1 << verses) - 1 & ~(set | done);
        }

        void lay(Script script, int verse, int[] picks) {
            for (int i = 0; i < script.wide[verse]; i++) {
                int at = verse * WANTED + i;
                from[at] = picks[at];
                used[picks[at] * LETTERS + script.wanted[at]]++;
            }
            set |= 1 << verse;
        }

        void lift(Script script, int verse) {
            for (int i = 0; i < script.wide[verse]; i++) {
                int at = verse * WANTED + i;
                used[from[at] * LETTERS + script.wanted[at]]--;
            }
            set &= ~(1 << verse);
        }

        void move(int house, int other, int letter) {
            has[house * LETTERS + letter]--;
            has[other * LETTERS + letter]++;
        }

        /** Whether there was one. */
        boolean lose(int cell) {
            if (has[cell] == 0) {
                return false;
            }
            has[cell]--;
            gone++;
            return true;
        }
    }

    /** What the laws tell. */
    private static final class Judge {
        static final int VALUE = 0;
        static final int DUE = 1;
        static final int DAY = 2;
        static final int WORN = 3;
        static final int HAS = 4;
        static final int WHICH = 5;
        static final int LETTER = 6;
        static final int LONG = 7;
        static final int LENT = 8;
        static final int VARS = 9;
        /** Six brackets with two numbers waiting ahead of each, the left side of a <, and three more. */
        static final int DEEPEST = 16;

        final Script script;
        final int[] vars = new int[VARS];
        final int[] stack = new int[DEEPEST];

        Judge(Script script) {
            this.script = script;
        }

        boolean givesLeave(Town town, int house, int letter, int verse) {
            lookAtVerse(verse);
            lookAtHouse(town, house, letter);
            return judge(Script.LEAVE) > 0;
        }

        int rank(Town town, int house, int letter, int verse) {
            lookAtVerse(verse);
            lookAtHouse(town, house, letter);
            return judge(Script.RANK);
        }

        int wears(Town town, int house, int letter) {
            Arrays.fill(vars, 0);
            lookAtHouse(town, house, letter);
            return Math.max(0, Math.min(9, judge(Script.WEARS)));
        }

        int pays(int verse, int day) {
            Arrays.fill(vars, 0);
            lookAtVerse(verse);
            vars[DAY] = day;
            return Math.max(0, Math.min(99, judge(Script.PAYS)));
        }

        private void lookAtVerse(int verse) {
            vars[VALUE] = script.value[verse];
            vars[DUE] = script.due[verse];
            vars[LONG] = script.wide[verse];
        }

        private void lookAtHouse(Town town, int house, int letter) {
            int cell = house * LETTERS + letter;
            vars[DAY] = town.day;
            vars[WORN] = town.worn[cell];
            vars[HAS] = town.has[cell];
            vars[WHICH] = house;
            vars[LETTER] = letter;
            vars[LENT] = town.lentBy(house, letter);
        }

        private int judge(int law) {
            int at = script.lawStart[law];
            int top = 0;
            while (at < script.steps) {
                int step = script.step[at];
                int operand = script.operand[at];
                at++;
                if (step == Script.PUSH_INT || step == Script.PUSH_VAR) {
                    if (top >= DEEPEST) {
                        return 0;
                    }
                    stack[top] = step == Script.PUSH_INT ? operand : vars[operand];
                    top++;
                } else if (step == Script.ANSWER) {
                    return top > 0 ? stack[top - 1] : 0;
                } else if (top < 2 || step == Script.DIVIDE && stack[top - 1] == 0) {
                    return 0;
                } else if (step == Script.SKIP_UNLESS_LESS) {
                    top -= 2;
                    at = stack[top] < stack[top + 1] ? at : Math.max(at, operand);
                } else {
                    top--;
                    stack[top - 1] = reckon(step, stack[top - 1], stack[top]);
                }
            }
            return 0;
        }

        /** Divides only by what judge has seen not to be 0. */
        private static int reckon(int step, int left, int right) {
            switch (step) {
                case Script.ADD:
                    return left + right;
                case Script.SUBTRACT:
                    return left - right;
                case Script.MULTIPLY:
                    return left * right;
                default:
                    return right == 0 ? 0 : left / right;
            }
        }
    }

    /** Lets days go by. */
    private static final class Press {
        static final int LONGEST_WEAR = 200;

        final Script script;
        final Judge judge;

        Press(Script script, Judge judge) {
            this.script = script;
            this.judge = judge;
        }

        void passDays(Town town, int n, int seed) {
            for (int i = 0; i < n; i++) {
                work(town);
                steal(town, seed);
                town.day++;
            }
        }

        /** What is paid with the next day. */
        int owed(Town town) {
            int sum = 0;
            for (int verse = 0; verse < script.verses; verse++) {
                if ((town.set & ~town.done & 1 << verse) != 0) {
                    sum += judge.pays(verse, town.day);
                }
            }
            return sum;
        }

        /** A day but for its thieves and its end. */
        void work(Town town) {
            town.paid += owed(town);
            town.done |= town.set;
            for (int house = 0; house < script.houses; house++) {
                for (int letter = 0; letter < LETTERS; letter++) {
                    wear(town, house, letter);
                }
            }
        }

        /** Whether a piece is gone by it. */
        private boolean wear(Town town, int house, int letter) {
            int cell = house * LETTERS + letter;
            if (town.used[cell] == 0) {
                return false;
            }
            int worn = town.worn[cell] + town.used[cell] * judge.wears(town, house, letter);
            town.worn[cell] = Math.min(MOST_WEAR, worn);
            if (town.worn[cell] < script.spoils) {
                return false;
            }
            town.worn[cell] = 0;
            return town.lose(cell);
        }

        boolean thievesCome(int seed, int day) {
            return lot(100, seed, 4 * day) < script.thieves;
        }

        private void steal(Town town, int seed) {
            if (!thievesCome(seed, town.day)) {
                return;
            }
            int letter = lot(LETTERS, seed, 4 * town.day + 1);
            int richest = 0;
            for (int house = 1; house < script.houses; house++) {
                if (town.has[house * LETTERS + letter] > town.has[richest * LETTERS + letter]) {
                    richest = house;
                }
            }
            town.lose(richest * LETTERS + letter);
        }

        private static int lot(int n, int seed, int which) {
            int h = mix(mix(seed, 121), which) >>> 1;
            return n > 0 ? h % n : 0;
        }

        private static int mix(int h, int with) {
            int mixed = (h ^ with) * 1103515245 + 12345;
            return mixed ^ mixed >>> 15;
        }

        /** Changes the town, which only has to serve this. */
        int daysTillWornOut(Town town, int house, int letter) {
            for (int days = 1; days <= LONGEST_WEAR; days++) {
                if (wear(town, house, letter)) {
                    return days;
                }
                town.day++;
            }
            return -2;
        }
    }

    /** By whom verses would be set, and which together bring most: on free pieces of its own, the town stays as it is. */
    private static final class Planner {
        final Script script;
        final Judge judge;
        final int[] free = new int[CELLS];
        final int[] picks = new int[VERSES * WANTED];
        final int[] pays = new int[VERSES];
        int clashes;
        int most;
        int mask;
        /** The verses that are looked at (bits). */
        private int looked;
        /** Of a verse's letter, the houses that give leave, the most rank first, and their ranks. */
        private final int[] givers = new int[VERSES * CELLS];
        private final int[] ranks = new int[VERSES * CELLS];
        private final int[] giverCount = new int[VERSES * LETTERS];

        Planner(Script script, Judge judge) {
            this.script = script;
            this.judge = judge;
        }

        /** The laws look at nothing that setting changes, so they are asked once. */
        void prepare(Town town, int verses) {
            looked = verses;
            most = 0;
            mask = 0;
            for (int cell = 0; cell < CELLS; cell++) {
                free[cell] = town.free(cell);
            }
            for (int verse = 0; verse < script.verses; verse++) {
                if ((verses >> verse & 1) == 0) {
                    continue;
                }
                pays[verse] = judge.pays(verse, town.day);
                for (int letter = 0; letter < LETTERS; letter++) {
                    if (script.needs[verse * LETTERS + letter] > 0) {
                        orderGivers(town, verse, letter);
                    }
                }
            }
        }

        private void orderGivers(Town town, int verse, int letter) {
            int base = (verse * LETTERS + letter) * HOUSES;
            int count = 0;
            for (int house = 0; house < script.houses; house++) {
                if (free[house * LETTERS + letter] == 0 || !judge.givesLeave(town, house, letter, verse)) {
                    continue;
                }
                int rank = judge.rank(town, house, letter, verse);
                int at = base + count;
                while (at > base && ranks[at - 1] < rank) {
                    givers[at] = givers[at - 1];
                    ranks[at] = ranks[at - 1];
                    at--;
                }
                givers[at] = house;
                ranks[at] = rank;
                count++;
            }
            giverCount[verse * LETTERS + letter] = count;
        }

        /** Takes the free pieces for a verse, and leaves them if one is not there. */
        boolean take(int verse) {
            clashes = 0;
            for (int i = 0; i < script.wide[verse]; i++) {
                int letter = script.wanted[verse * WANTED + i];
                int house = pick(verse, letter);
                if (house == NONE) {
                    giveUp(verse, i);
                    return false;
                }
                picks[verse * WANTED + i] = house;
                free[house * LETTERS + letter]--;
            }
            return true;
        }

        private int pick(int verse, int letter) {
            int base = (verse * LETTERS + letter) * HOUSES;
            int end = base + giverCount[verse * LETTERS + letter];
            int first = NONE;
            for (int at = base; at < end; at++) {
                if (free[givers[at] * LETTERS + letter] == 0) {
                    continue;
                }
                if (first != NONE) {
                    clashes += ranks[at] == ranks[first] ? 1 : 0;
                    break;
                }
                first = at;
            }
            return first == NONE ? NONE : givers[first];
        }

        /** The first pieces of those that were taken for a verse are free again. */
        void giveUp(int verse, int count) {
            for (int i = 0; i < count; i++) {
                int at = verse * WANTED + i;
                free[picks[at] * LETTERS + script.wanted[at]]++;
            }
        }

        void seek(Town town) {
            prepare(town, town.open(script.verses));
            search();
        }

        void seekWithout(Town town, int house) {
            prepare(town, town.open(script.verses));
            for (int letter = 0; letter < LETTERS; letter++) {
                free[house * LETTERS + letter] = 0;
            }
            search();
        }

        /** By each set that can be: all that still go are taken, then the last one is left for those behind it. */
        private void search() {
            int chosen = 0;
            int brings = 0;
            int verse = 0;
            for (int sets = 0; sets < 1 << VERSES; sets++) {
                for (; verse < script.verses; verse++) {
                    if ((looked >> verse & 1) == 1 && take(verse)) {
                        chosen |= 1 << verse;
                        brings += pays[verse];
                    }
                }
                keepIfMore(chosen, brings);
                if (chosen == 0) {
                    return;
                }
                int last = lastOf(chosen);
                giveUp(last, script.wide[last]);
                chosen &= ~(1 << last);
                brings -= pays[last];
                verse = last + 1;
            }
        }

        private void keepIfMore(int chosen, int brings) {
            if (brings > most || brings == most && chosen < mask) {
                most = brings;
                mask = chosen;
            }
        }

        private static int lastOf(int verses) {
            int last = VERSES - 1;
            while (last > 0 && verses >> last == 0) {
                last--;
            }
            return last;
        }
    }

    /** What is set on two days so that most is paid. */
    private static final class TwoDays {
        final Script script;
        final Judge judge;
        final Press press;
        final Planner first;
        final Planner second;
        final Town after = new Town();
        int most;
        int mask;
        private final int[] paysLater = new int[VERSES];

        TwoDays(Script script, Judge judge, Press press, Planner first) {
            this.script = script;
            this.judge = judge;
            this.press = press;
            this.first = first;
            this.second = new Planner(script, judge);
        }

        void seek(Town town) {
            int open = town.open(script.verses);
            first.prepare(town, open);
            for (int verse = 0; verse < script.verses; verse++) {
                paysLater[verse] = judge.pays(verse, town.day + 1);
            }
            int anyway = press.owed(town);
            most = NONE;
            mask = 0;
            for (int chosen = 0; chosen < 1 << script.verses; chosen++) {
                if ((chosen & ~open) != 0) {
                    continue;
                }
                int paid = anyway + total(first.pays, chosen);
                // what can't bring more than the most so far needs no second day
                if (paid + total(paysLater, open & ~chosen) <= most || !takeAll(chosen)) {
                    continue;
                }
                passFirst(town, chosen);
                giveUpAll(chosen);
                second.seek(after);
                if (paid + second.most > most) {
                    most = paid + second.most;
                    mask = chosen;
                }
            }
        }

        private int total(int[] pays, int verses) {
            int sum = 0;
            for (int verse = 0; verse < script.verses; verse++) {
                sum += (verses >> verse & 1) == 1 ? pays[verse] : 0;
            }
            return sum;
        }

        private boolean takeAll(int verses) {
            for (int verse = 0; verse < script.verses; verse++) {
                if ((verses >> verse & 1) == 1 && !first.take(verse)) {
                    giveUpAll(verses & (1 << verse) - 1);
                    return false;
                }
            }
            return true;
        }

        private void giveUpAll(int verses) {
            for (int verse = 0; verse < script.verses; verse++) {
                if ((verses >> verse & 1) == 1) {
                    first.giveUp(verse, script.wide[verse]);
                }
            }
        }

        private void passFirst(Town town, int chosen) {
            after.become(town);
            for (int verse = 0; verse < script.verses; verse++) {
                if ((chosen >> verse & 1) == 1) {
                    after.lay(script, verse, first.picks);
                }
            }
            press.work(after);
            after.day++;
            for (int verse = 0; verse < script.verses; verse++) {
                if ((chosen >> verse & 1) == 1) {
                    after.lift(script, verse);
                }
            }
        }
    }

    /** Loans and bargains between houses. */
    private static final class Trade {
        final Script script;
        int bargains;
        int first;

        Trade(Script script) {
            this.script = script;
        }

        int loansFor(Town town, int house, int verse) {
            int loans = 0;
            for (int letter = 0; letter < LETTERS; letter++) {
                int needed = script.needs[verse * LETTERS + letter];
                int cell = house * LETTERS + letter;
                // a lent piece first stands in for one that is gone though still in use
                int lacking = needed - (town.has[cell] - town.used[cell]);
                if (needed == 0 || lacking <= 0) {
                    continue;
                }
                if (freeElsewhere(town, house, letter) < lacking) {
                    return -2;
                }
                loans += lacking;
            }
            return loans;
        }

        private int freeElsewhere(Town town, int house, int letter) {
            int sum = 0;
            for (int other = 0; other < script.houses; other++) {
                sum += other == house ? 0 : town.free(other * LETTERS + letter);
            }
            return sum;
        }

        void seekBargains(Town town) {
            bargains = 0;
            first = -2;
            for (int house = 0; house < script.houses; house++) {
                for (int other = house + 1; other < script.houses; other++) {
                    seekBetween(town, house, other);
                }
            }
        }

        private void seekBetween(Town town, int house, int other) {
            for (int given = 0; given < LETTERS; given++) {
                for (int got = 0; got < LETTERS; got++) {
                    if (given != got && town.free(house * LETTERS + given) > 0
                            && town.free(other * LETTERS + got) > 0
                            && gains(town, house, given, got) && gains(town, other, got, given)) {
                        first = bargains == 0 ? 1000 * house + 100 * other + 10 * given + got : first;
                        bargains++;
                    }
                }
            }
        }

        private boolean gains(Town town, int house, int given, int got) {
            return versesAlone(town, house, given, got) > versesAlone(town, house, NONE, NONE);
        }

        /** How many open verses a house has pieces for, once it gave one and got another. */
        private int versesAlone(Town town, int house, int given, int got) {
            int open = town.open(script.verses);
            int count = 0;
            for (int verse = 0; verse < script.verses; verse++) {
                boolean able = (open >> verse & 1) == 1;
                for (int letter = 0; letter < LETTERS && able; letter++) {
                    int cell = house * LETTERS + letter;
                    int left = town.has[cell] - town.used[cell] + (letter == got ? 1 : 0) - (letter == given ? 1 : 0);
                    able = script.needs[verse * LETTERS + letter] <= Math.max(0, left);
                }
                count += able ? 1 : 0;
            }
            return count;
        }
    }

    /** What was told of a print. */
    private static final class Prints {
        static final int MOST = 20;

        final int[] letters = new int[MOST];
        final int[] wears = new int[MOST];
        final boolean[] sos = new boolean[MOST];
        int count;

        int note(int letter, int w, boolean so) {
            if (count >= MOST) {
                return NONE;
            }
            letters[count] = letter;
            wears[count] = w;
            sos[count] = so;
            count++;
            return count - 1;
        }

        int left(Town town, int houses, int known) {
            int left = 0;
            for (int house = 0; house < houses; house++) {
                boolean fits = true;
                for (int i = 0; i < known; i++) {
                    fits = fits && town.worn[house * LETTERS + letters[i]] >= wears[i] == sos[i];
                }
                left |= fits ? 1 << house : 0;
            }
            return left;
        }

        int letterToAsk(Town town, int left, int w) {
            int letterToAsk = -2;
            int fewest = HOUSES + 1;
            for (int letter = 0; letter < LETTERS && left != 0; letter++) {
                int so = 0;
                for (int house = 0; house < HOUSES; house++) {
                    so += (left >> house & 1) == 1 && town.worn[house * LETTERS + letter] >= w ? 1 : 0;
                }
                int atWorst = Math.max(so, Integer.bitCount(left) - so);
                if (atWorst < fewest) {
                    fewest = atWorst;
                    letterToAsk = letter;
                }
            }
            return letterToAsk;
        }
    }

    /** The towns that can be gone back to, the oldest forgotten first. */
    private static final class History {
        static final int MOST = 30;

        private final Town[] rows = new Town[MOST];
        private int next;
        int count;

        void keep(Town town) {
            Town row = rows[next];
            if (row == null) {
                row = new Town();
                rows[next] = row;
            }
            row.become(town);
            next = (next + 1) % MOST;
            count = Math.min(MOST, count + 1);
        }

        boolean takeBack(Town town) {
            int last = (next + MOST - 1) % MOST;
            Town row = rows[last];
            if (count == 0 || row == null) {
                return false;
            }
            town.become(row);
            next = last;
            count--;
            return true;
        }
    }
}
