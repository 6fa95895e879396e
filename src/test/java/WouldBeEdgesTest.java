/** The boundary cases of "Terms", III, and of promises 17 to 29: a test for each sentence that names one. */
public final class WouldBeEdgesTest {
    private static final int MIN = Integer.MIN_VALUE;
    private static final int MAX = Integer.MAX_VALUE;
    private static final int[] NO_WHAT = {MIN, -1, 2, 3, MAX};
    private static final String TOWN = "house a aab; house b abc; verse v a 5 1; verse w bc 7 1; verse u ab 9 1;";

    public static void main(String[] args) {
        nothingHappens();
        thievesInDaysAndYearAlone();
        openVerses();
        bestAllCanBe();
        bestLeastBits();
        bestOfAllSets();
        bestEmpty();
        bestNone();
        worthMore();
        worthNone();
        pillarFirst();
        pillarEdges();
        twoDaysOpenThen();
        twoDaysSetNow();
        twoDaysLeastBits();
        twoDaysEmpty();
        twoDaysNone();
        loansFreePieces();
        loansEdges();
        bargainsEach();
        bargainsOfTwo();
        bargainsFirst();
        bargainsNone();
        strikeEdges();
        strikeNone();
        clashMoreThanOne();
        clashEdges();
        lateAlready();
        wornOut200();
        wornOutEdges();
        inDays60();
        thenNone();
        paidInEdges();
        year20();
        yearNone();
        Due.end();
    }

    private static void nothingHappens() {
        Due.of("What would be (nothing happens");
        Seen.Calls ahead = x -> {
            x.set(0);
            x.lend(1, 0, 0);
            x.days(2);
            x.tell(0, 1, true);
            x.hold(0);
        };
        Seen.Calls[] asked = {x -> x.from(1, 0), x -> x.best(0), x -> x.worth(1, 1), x -> x.pillar(1), x -> x.twoDays(1),
            x -> x.loans(0, 1), x -> x.bargains(1), x -> x.strike(3), x -> x.clash(2), x -> x.late(), x -> x.wornOut(0, 0),
            x -> x.then(0, 0, 60, 0), x -> x.paidIn(60), x -> x.year(0, 0, 60, 20), x -> x.whose(1, 0), x -> x.ask(1, 1),
            x -> x.count(14), x -> x.tells(0, 0, 0, 1)};
        for (Seen.Calls calls : asked) {
            Seen.nothingHappens(TOWN + "thieves 90; spoils 3;", ahead, calls);
        }
    }

    private static void thievesInDaysAndYearAlone() {
        Due.of("THIEVES come IN n DAYS and in YEAR alone");
        // seed 0 takes h on day 0
        CapitalCase x = Due.town("house a h; verse v h 5 1; thieves 100; pays = value + day;");
        Due.due("IN 1 DAY", x.then(0, 7, 1, 0), 0);
        Due.due("YEAR", x.year(0, 7, 1, 1), 0);
        Due.due("TWO DAYS", x.twoDays(0), 6);
        Due.due("BEST", x.best(0), 5);
        x.set(0);
        Due.due("WORN OUT", x.wornOut(0, 7), 20);
    }

    private static void openVerses() {
        Due.of("OPEN VERSES: those neither SET nor DONE.");
        CapitalCase x = Due.town("house a aaaa; verse p a 1 0; verse q a 2 0; verse r a 4 0; verse s a 8 0;");
        x.set(0);
        x.set(1);
        x.days(1);
        x.clear(0);
        x.set(2);
        Due.due("STRIKE", x.strike(0), 8);
        Due.due("LATE", x.late(), 8);
        Due.due("BEST", x.best(1), 8);
        Due.due("can be SET", x.count(14), 8);
    }

    private static void best(CapitalCase x, int much, int which) {
        Due.due("best(0)", x.best(0), much);
        Due.due("best(1)", x.best(1), which);
    }

    private static void bestAllCanBe() {
        Due.of("SET now one behind the other by number, all can be, that brings most (PAYS of all as of now)");
        best(Due.town("house a abcdefgh; verse p a 99 1; verse q b 99 1; verse r c 99 1; verse s d 99 1; verse t e 99 1;"
                + "verse u f 99 1; verse v gh 99 1;"), 693, 127);
        // p takes the piece of the first house, the one of which q could be had
        best(Due.town("house a a; house b a; verse p a 4 9; verse q a 6 9; leave = if value < 5 then 1 else 1 - which;"), 6, 2);
        best(Due.town("house a a; house b a; verse q a 6 9; verse p a 4 9; leave = if value < 5 then 1 else 1 - which;"), 10, 3);
        CapitalCase x = Due.town("house a a; verse p a 10 9; verse q a 8 0; pays = value - day * due;");
        best(x, 10, 1);
        x.days(1);
        best(x, 8, 2);
    }

    /** Seven verses that all go together: each set is looked at, up to the last ones with the fewest verses. */
    private static void bestOfAllSets() {
        Due.of("of alike ones the least bits");
        for (int bits = 0; bits < 128; bits++) {
            StringBuilder text = new StringBuilder("house a abcdefgh;");
            for (int verse = 0; verse < 7; verse++) {
                text.append("verse ").append((char) ('p' + verse)).append(' ').append((char) ('a' + verse))
                        .append((bits >> verse & 1) == 1 ? " 3 1;" : " 0 1;");
            }
            CapitalCase x = Due.town(text.toString());
            best(x, 3 * Integer.bitCount(bits), bits);
            Due.due("pillar(1)", x.pillar(1), 0);
            Due.due("twoDays(0)", x.twoDays(0), 3 * Integer.bitCount(bits));
            Due.due("twoDays(1)", x.twoDays(1), 0);
        }
    }

    private static void bestLeastBits() {
        Due.of("that brings most (PAYS of all as of now); of alike ones the least bits; how much");
        best(Due.town("house a a; verse p a 5 1; verse q a 5 1;"), 5, 1);
        best(Due.town("house a ab; verse p ab 6 1; verse q a 3 1; verse r b 3 1;"), 6, 1);
        best(Due.town("house a ab; verse p a 3 1; verse q b 3 1; verse r ab 6 1;"), 6, 3);
        best(Due.town("house a aa; verse p a 0 1; verse q a 5 1;"), 5, 2);
        best(Due.town("house a aa; verse p a 5 1; verse q a 0 1;"), 5, 1);
        best(Due.town("house a aa; verse p aa 7 1; verse q a 4 1; verse r a 3 1; verse s aa 7 1;"), 7, 1);
        best(Due.town("house a aa; verse q a 4 1; verse s aa 7 1; verse r a 3 1;"), 7, 2);
    }

    private static void bestEmpty() {
        Due.of("BEST: the set of OPEN VERSES which");
        best(new CapitalCase(), 0, 0);
        best(Due.town("house a a;"), 0, 0);
        best(Due.town("verse v a 9 9;"), 0, 0);
        best(Due.town("house a a; verse v b 9 9;"), 0, 0);
        best(Due.town("house a a; verse v a 0 9;"), 0, 0);
        CapitalCase x = Due.town("house a aa; verse v a 9 9;");
        best(x, 9, 1);
        x.set(0);
        best(x, 0, 0);
        x.days(1);
        best(x, 0, 0);
        x.clear(0);
        best(x, 0, 0);
    }

    private static void bestNone() {
        Due.of("BEST: what 0 how much, 1 which (bits). NONE for others.");
        CapitalCase x = Due.town("house a aa; verse v a 9 9;");
        for (int no : NO_WHAT) {
            Due.due("best(" + no + ")", x.best(no), -1);
            Due.due("best(" + no + ") of a new object", new CapitalCase().best(no), -1);
        }
    }

    private static void worthMore() {
        Due.of("WORTH of a PIECE more that a HOUSE had of a LETTER: how much more BEST brings.");
        CapitalCase x = Due.town("house a aaaaaaaa; house b b; verse p aaaaaaaa 5 1; verse q a 3 1; verse r h 9 1;");
        Due.due("a ninth one", x.worth(0, 0), 3);
        Due.due("by another house", x.worth(1, 0), 3);
        Due.due("the last letter", x.worth(1, 7), 9);
        Due.due("one of no use", x.worth(1, 1), 0);
        x.set(1);
        Due.due("one is in use", x.worth(0, 0), 5);
        x.clear(1);
        x.set(0);
        Due.due("all are in use", x.worth(0, 0), 3);
        x.days(1);
        x.clear(0);
        x.set(1);
        Due.due("none is OPEN that wants it", x.worth(0, 0), 0);
        Due.due("no verses", Due.town("house a a;").worth(0, 0), 0);
    }

    private static void worthNone() {
        Due.of("WORTH; NONE: no such ones.");
        CapitalCase x = Due.town(TOWN);
        for (int no : new int[] {MIN, -1, 2, 5, MAX}) {
            Due.due("no such house", x.worth(no, 0), -1);
        }
        for (int no : new int[] {MIN, -1, 8, MAX}) {
            Due.due("no such letter", x.worth(0, no), -1);
        }
        Due.due("no houses", new CapitalCase().worth(0, 0), -1);
    }

    private static void pillar(CapitalCase x, int house, int much) {
        Due.due("pillar(0)", x.pillar(0), house);
        Due.due("pillar(1)", x.pillar(1), much);
    }

    private static void pillarFirst() {
        Due.of("without whose FREE PIECES BEST brings least, of alike ones the first; how much then");
        pillar(Due.town("house a a; house b b; verse v a 5 1; verse w b 5 1;"), 0, 5);
        pillar(Due.town("house a a; house b b; verse v a 4 1; verse w b 5 1;"), 1, 4);
        pillar(Due.town("house a a; house b b; verse v a 5 1; verse w b 4 1;"), 0, 4);
        pillar(Due.town("house p h; house q h; house r h; house s h; house t a; verse v a 1 1;"), 4, 0);
        pillar(Due.town("house a a; house b b; verse v c 5 1;"), 0, 0);
        pillar(Due.town("house a a; house b a; verse v a 5 1;"), 0, 5);
        pillar(Due.town("house a a;"), 0, 0);
        CapitalCase x = Due.town("house a aa; house b b; verse v a 5 1; verse w b 4 1; verse u a 3 1;");
        pillar(x, 0, 4);
        x.set(0);
        // 7 is brought by the FREE ones: 4 without the first house's, 3 without the second one's
        pillar(x, 1, 3);
    }

    private static void pillarEdges() {
        Due.of("-2: there are no HOUSES; NONE for others");
        CapitalCase[] none = {new CapitalCase(), Due.town("verse v a 1 1;")};
        for (CapitalCase x : none) {
            pillar(x, -2, -2);
        }
        CapitalCase x = Due.town(TOWN);
        for (int no : NO_WHAT) {
            Due.due("pillar(" + no + ")", x.pillar(no), -1);
        }
    }

    private static void twoDays(CapitalCase x, int much, int first) {
        Due.due("twoDays(0)", x.twoDays(0), much);
        Due.due("twoDays(1)", x.twoDays(1), first);
    }

    private static void twoDaysOpenThen() {
        Due.of("if ahead of each a set of VERSES that are OPEN then is SET by number, all of them, and these are CLEARED behind the first DAY");
        twoDays(Due.town("house a a; verse v a 5 1; verse w a 4 1; verse u a 3 1;"), 9, 1);
        twoDays(Due.town("house a a; verse v a 5 1; verse w a 4 1; verse u a 3 1; spoils 1;"), 5, 0);
        // one piece a day spoils, even where two are in use
        twoDays(Due.town("house a aa; verse v a 5 1; verse w a 4 1; verse u a 3 1; spoils 1;"), 12, 3);
        twoDays(Due.town("house a aa; verse v a 5 1; verse w a 4 1; verse u a 3 1; spoils 2;"), 12, 1);
        // by day 1 v brings 9
        twoDays(Due.town("house a a; verse v a 5 4; verse w a 6 0; pays = value + day * due;"), 15, 2);
        twoDays(Due.town("house a a; verse v a 5 4; pays = value + day * due;"), 9, 0);
        twoDays(Due.town("house a a; verse v a 5 4; pays = value - day * due;"), 5, 1);
        twoDays(Due.town("house a a; verse v a 5 1; verse w a 5 1; pays = if day < 2 then value else 0;"), 10, 1);
        // v and w can't be together, nor w and u, which brings nothing on the second day
        twoDays(Due.town("house a ab; verse v a 5 2; verse w ba 8 6; verse u b 9 9; pays = value - day * due;"), 16, 5);
    }

    private static void twoDaysSetNow() {
        Due.of("(those SET now stay so, and are PAID, too)");
        CapitalCase x = Due.town("house a a; verse v a 5 1; verse w a 4 1;");
        x.set(0);
        twoDays(x, 5, 0);
        x.days(1);
        twoDays(x, 0, 0);
        x.clear(0);
        twoDays(x, 4, 0);
        // paid by the first day, once
        x = Due.town("house a a; verse v a 5 1; pays = value + day * 3;");
        x.days(2);
        x.set(0);
        twoDays(x, 11, 0);
        // what it has in use is worn with the first day, too: by w then an a would be gone, and none be left for u
        x = Due.town("house a aa; verse v a 5 1; verse w a 4 1; verse u a 3 1; spoils 2;");
        x.set(0);
        twoDays(x, 9, 0);
        x = Due.town("house a aa; verse v a 5 1; verse w a 4 1; verse u a 3 1; spoils 3;");
        x.set(0);
        twoDays(x, 12, 2);
    }

    private static void twoDaysLeastBits() {
        Due.of("the first day's set, of alike ones the least bits");
        twoDays(Due.town("house a a; verse v a 5 1; verse w a 5 1;"), 10, 1);
        twoDays(Due.town("house a ab; verse v a 5 1; verse w b 5 1;"), 10, 0);
        twoDays(Due.town("house a a; verse v a 0 1; verse w a 5 1; verse u a 5 1;"), 10, 2);
        twoDays(Due.town("house a a; verse v a 5 1;"), 5, 0);
    }

    private static void twoDaysEmpty() {
        Due.of("TWO DAYS: the most that is PAID in two DAYS");
        twoDays(new CapitalCase(), 0, 0);
        twoDays(Due.town("house a a;"), 0, 0);
        twoDays(Due.town("verse v a 5 5;"), 0, 0);
        twoDays(Due.town("house a a; verse v b 5 5;"), 0, 0);
        twoDays(Due.town("house a a; verse p a 99 1; verse q a 99 1; verse r a 99 1; verse s a 99 1; verse t a 99 1;"
                + "verse u a 99 1; verse v a 99 1;"), 198, 1);
        twoDays(Due.town("house a abcd; verse p a 99 1; verse q b 99 1; verse r c 99 1; verse s d 99 1; verse t a 99 1;"
                + "verse u b 99 1; verse v c 99 1;"), 693, 7);
    }

    private static void twoDaysNone() {
        Due.of("TWO DAYS: what 0 how much, 1 the first day's set (bits). NONE for others.");
        CapitalCase x = Due.town(TOWN);
        for (int no : NO_WHAT) {
            Due.due("twoDays(" + no + ")", x.twoDays(no), -1);
        }
    }

    private static void loansFreePieces() {
        Due.of("how many FREE PIECES others must lend it at least, so that it has a FREE one for each letter that the VERSE wants");
        CapitalCase x = Due.town("house a a; house b aaa; house c bb; verse p aaaa 1 1; verse q aaaaa 1 1; verse r aab 1 1; verse s a 1 1;");
        Due.due("three", x.loans(0, 0), 3);
        Due.due("one", x.loans(1, 0), 1);
        Due.due("four", x.loans(2, 0), 4);
        Due.due("one too many", x.loans(0, 1), -2);
        Due.due("two letters", x.loans(0, 2), 2);
        Due.due("none", x.loans(0, 3), 0);
        x.set(3);
        Due.due("its own is in use", x.loans(0, 3), 1);
        Due.due("others have three", x.loans(1, 0), -2);
        Due.due("of a SET one, by FREE ones", x.loans(1, 3), 0);
        x.lend(1, 0, 0);
        Due.due("lent already", x.loans(0, 3), 0);
        x = Due.town("house a a; house b a; house c a; house d a; house e a; verse p aaaaa 1 1; verse q aaaaaa 1 1;");
        for (int house = 0; house < 5; house++) {
            Due.due("all of four others", x.loans(house, 0), 4);
            Due.due("more than that", x.loans(house, 1), -2);
        }
    }

    private static void loansEdges() {
        Due.of("LOANS; -2: others have not so many FREE; NONE: no such ones.");
        CapitalCase x = Due.town(TOWN);
        Due.due("a c", x.loans(0, 1), 1);
        x = Due.town("house a a; verse v aa 1 1;");
        Due.due("there are no others", x.loans(0, 0), -2);
        x = Due.town("house a aa; verse v aa 1 1;");
        Due.due("none must be lent", x.loans(0, 0), 0);
        x = Due.town(TOWN);
        for (int no : new int[] {MIN, -1, 2, 5, MAX}) {
            Due.due("no such house", x.loans(no, 0), -1);
        }
        for (int no : new int[] {MIN, -1, 3, 7, MAX}) {
            Due.due("no such verse", x.loans(0, no), -1);
        }
    }

    private static void bargains(CapitalCase x, int many, int first) {
        Due.due("bargains(0)", x.bargains(0), many);
        Due.due("bargains(1)", x.bargains(1), first);
    }

    private static void bargainsEach() {
        Due.of("by which each has, by itself, FREE PIECES for more OPEN VERSES (each looked at by itself) than now: how many");
        bargains(Due.town("house a aa; house b bb; verse v ab 1 1;"), 1, 101);
        // just as many for the second: it gives the b that w wants, for v
        bargains(Due.town("house a aa; house b b; verse v ab 1 1; verse w b 1 1;"), 0, -2);
        bargains(Due.town("house a a; house b b; verse v a 1 1; verse w b 1 1;"), 0, -2);
        // one and the same letter is no bargain
        bargains(Due.town("house a a; house b a; verse v aa 1 1;"), 0, -2);
        CapitalCase x = Due.town("house a aa; house b bb; verse v ab 1 1; verse w a 1 1; verse u a 1 1;");
        bargains(x, 1, 101);
        x.set(1);
        // one a is in use: by the other it would win v and lose u
        bargains(x, 0, -2);
        x.days(1);
        x.clear(1);
        bargains(x, 1, 101);
        x.set(2);
        x.days(1);
        bargains(x, 0, -2);
    }

    private static void bargainsOfTwo() {
        Due.of("two HOUSES, a LETTER of the one (one FREE PIECE) for another LETTER of the other one");
        // with itself it could
        bargains(Due.town("house a ab; verse v aa 1 1; verse w bb 1 1;"), 0, -2);
        // the one has no c, by which the other would win w
        bargains(Due.town("house a a; house b bb; verse v ab 1 1; verse w bc 1 1;"), 0, -2);
        bargains(Due.town("house a bb; house b a; verse v ab 1 1; verse w bc 1 1;"), 0, -2);
        // by one b the first would not have v, by two it would
        bargains(Due.town("house a aa; house b bbbc; verse v abb 1 1; verse u abc 1 1;"), 0, -2);
        bargains(Due.town("house a aa; house b bbb; verse v ab 1 1;"), 1, 101);
        // its c is in use
        CapitalCase x = Due.town("house a ac; house b bd; verse v ad 1 1; verse w bc 1 1; verse u c 1 1;");
        Due.due("by a and by d", x.bargains(0), 1);
        x.set(2);
        bargains(x, 0, -2);
    }

    private static void bargainsFirst() {
        Due.of("the first by the lesser HOUSE, the other one, the LETTER of the lesser one, that of the other one");
        bargains(Due.town("house a ah; house b bh; house c hc; verse v hh 1 1;"), 0, -2);
        bargains(Due.town("house a ac; house b bd; verse v ad 3 9; verse w bc 4 9;"), 2, 101);
        bargains(Due.town("house a e; house b f; house c g; house d aa; house e hh; verse v ah 1 1;"), 1, 3407);
        bargains(Due.town("house a hh; house b gg; house c gg; verse v gh 1 1;"), 2, 176);
        bargains(Due.town("house a gg; house b hh; house c hh; verse v gh 1 1;"), 2, 167);
        bargains(Due.town("house a bbh; house b aah; verse v ab 1 1;"), 1, 110);
    }

    private static void bargainsNone() {
        Due.of("-2: none). NONE for others.");
        bargains(new CapitalCase(), 0, -2);
        bargains(Due.town("house a aa; verse v ab 1 1;"), 0, -2);
        bargains(Due.town("house a aa; house b bb;"), 0, -2);
        CapitalCase x = Due.town("house a aa; house b bb; verse v ab 1 1;");
        for (int no : NO_WHAT) {
            Due.due("bargains(" + no + ")", x.bargains(no), -1);
        }
    }

    private static void strikeEdges() {
        Due.of("STRIKE of a set of LETTERS: OPEN VERSES that want none of them.");
        CapitalCase x = Due.town("verse p a 1 1; verse q b 1 1; verse r c 1 1; verse s d 1 1; verse t e 1 1; verse u fg 1 1; verse v h 1 1;");
        int[] due = {126, 125, 123, 119, 111, 95, 95, 63};
        for (int letter = 0; letter < 8; letter++) {
            Due.due("letter " + letter, x.strike(1 << letter), due[letter]);
        }
        Due.due("none", x.strike(0), 127);
        Due.due("all", x.strike(255), 0);
        Due.due("all but a", x.strike(254), 1);
        Due.due("no verses", Due.town("house a a;").strike(0), 0);
    }

    private static void strikeNone() {
        Due.of("STRIKE of a set (bits of LETTERS, 0 .. 255): bits; NONE: no such set.");
        CapitalCase x = Due.town(TOWN);
        Due.due("0", x.strike(0), 7);
        Due.due("255", x.strike(255), 0);
        for (int no : new int[] {MIN, -1, 256, 257, 512, MAX}) {
            Due.due("strike(" + no + ")", x.strike(no), -1);
            Due.due("strike(" + no + ") of a new object", new CapitalCase().strike(no), -1);
        }
    }

    private static void clashMoreThanOne() {
        Due.of("for how many of its letters, as it would be SET now, more than one HOUSE has the most RANK");
        Due.due("each of eight", Due.town("house a abcdefgh; house b abcdefgh; verse v abcdefgh 1 1;").clash(0), 8);
        Due.due("none of eight", Due.town("house a abcdefgh; house b abcdefgh; verse v abcdefgh 1 1; rank = which;").clash(0), 0);
        Due.due("one house", Due.town("house a aa; verse v aa 1 1;").clash(0), 0);
        Due.due("two, then one", Due.town("house a a; house b a; verse v aa 1 1;").clash(0), 1);
        Due.due("alike ones that are not the most", Due.town("house a a; house b a; house c a; verse v a 1 1; rank = which / 2;").clash(0), 0);
        Due.due("once those are in use", Due.town("house a a; house b a; house c a; verse v aa 1 1; rank = which / 2;").clash(0), 1);
        Due.due("five alike", Due.town("house a a; house b a; house c a; house d a; house e a; verse v aaaaa 1 1;").clash(0), 4);
        Due.due("no LEAVE by one", Due.town("house a a; house b a; verse v a 1 1; leave = which;").clash(0), 0);
        CapitalCase x = Due.town("house a a; house b a; house c a; verse v a 1 1; verse w a 1 1; verse u a 1 1;");
        Due.due("three", x.clash(1), 1);
        x.set(0);
        Due.due("two", x.clash(1), 1);
        x.set(2);
        Due.due("one", x.clash(1), 0);
    }

    private static void clashEdges() {
        Due.of("CLASH; -2: it is not OPEN, it can't be SET; NONE: no such VERSE.");
        CapitalCase x = Due.town("house a aa; verse v a 1 1; verse w b 1 1; verse u aa 1 1;");
        Due.due("OPEN", x.clash(0), 0);
        Due.due("can't be SET", x.clash(1), -2);
        x.set(0);
        Due.due("SET", x.clash(0), -2);
        Due.due("can't be SET now", x.clash(2), -2);
        x.days(1);
        Due.due("DONE and SET", x.clash(0), -2);
        x.clear(0);
        Due.due("DONE and CLEARED", x.clash(0), -2);
        Due.due("OPEN", x.clash(2), 0);
        for (int no : new int[] {MIN, -1, 3, 7, 32, MAX}) {
            Due.due("no such verse", x.clash(no), -1);
        }
    }

    private static void lateAlready() {
        Due.of("LATE: OPEN VERSES that were due already.");
        CapitalCase x = Due.town("house a a; verse p a 1 0; verse q a 1 1; verse r a 1 60; verse s a 1 99;");
        Due.due("day 0", x.late(), 0);
        x.days(1);
        Due.due("day 1", x.late(), 1);
        x.days(1);
        Due.due("day 2", x.late(), 3);
        x.days(58);
        Due.due("day 60", x.late(), 3);
        x.days(1);
        Due.due("day 61", x.late(), 7);
        x.days(38);
        Due.due("day 99", x.late(), 7);
        x.days(1);
        Due.due("day 100", x.late(), 15);
        x.set(1);
        Due.due("SET", x.late(), 13);
        x.days(1);
        Due.due("DONE and SET", x.late(), 13);
        x.clear(1);
        Due.due("DONE and CLEARED", x.late(), 13);
        Due.due("no verses", Due.town("house a a;").late(), 0);
        x = Due.town("verse p a 1 0; verse q a 1 0; verse r a 1 0; verse s a 1 0; verse t a 1 0; verse u a 1 0; verse v a 1 0;");
        x.days(1);
        Due.due("seven", x.late(), 127);
    }

    private static int wornOut(String laws) {
        CapitalCase x = Due.town("house a aab; verse v aa 1 1;" + laws);
        x.set(0);
        return x.wornOut(0, 0);
    }

    private static void wornOut200() {
        Due.of("WORN OUT: behind how many DAYS (1 .. 200) a PIECE of a HOUSE's LETTER is gone by wear, all staying SET.");
        Due.due("1", wornOut("spoils 1;"), 1);
        Due.due("1", wornOut("spoils 2;"), 1);
        Due.due("2", wornOut("spoils 3;"), 2);
        Due.due("199", wornOut("spoils 1; wears = if day < 198 then 0 else 1;"), 199);
        Due.due("200", wornOut("spoils 1; wears = if day < 199 then 0 else 1;"), 200);
        Due.due("201", wornOut("spoils 1; wears = if day < 200 then 0 else 1;"), -2);
        Due.due("no thieves", wornOut("spoils 99; thieves 100;"), 50);
        CapitalCase x = Due.town("house a a; verse v a 1 1; spoils 1; wears = if day < 250 then 0 else 1;");
        x.set(0);
        Due.due("from day 0", x.wornOut(0, 0), -2);
        x.days(50);
        Due.due("from day 50", x.wornOut(0, 0), -2);
        x.days(1);
        Due.due("from day 51", x.wornOut(0, 0), 200);
        x.days(60);
        x.days(60);
        x.days(60);
        x.days(19);
        Due.due("from day 250", x.wornOut(0, 0), 1);
    }

    private static void wornOutEdges() {
        Due.of("WORN OUT; -2: not; NONE: no such ones.");
        CapitalCase x = Due.town("house a aab; house b a; verse v a 1 1; spoils 2;");
        Due.due("nothing is SET", x.wornOut(0, 0), -2);
        x.set(0);
        Due.due("in use", x.wornOut(0, 0), 2);
        Due.due("not this letter", x.wornOut(0, 1), -2);
        Due.due("not this house", x.wornOut(1, 0), -2);
        x.days(4);
        Due.due("both are gone, it is in use", x.wornOut(0, 0), -2);
        x.lend(1, 0, 0);
        Due.due("one was lent to it", x.wornOut(0, 0), 2);
        x.clear(0);
        Due.due("CLEARED", x.wornOut(0, 0), -2);
        for (int no : new int[] {MIN, -1, 2, 5, MAX}) {
            Due.due("no such house", x.wornOut(no, 0), -1);
        }
        for (int no : new int[] {MIN, -1, 8, MAX}) {
            Due.due("no such letter", x.wornOut(0, no), -1);
        }
    }

    private static void inDays60() {
        Due.of("IN n DAYS (0 .. 60): PIECES, wear of a HOUSE's LETTER; what was PAID more.");
        String text = "house a aaabbh; house b abh; verse v aabh 7 3; spoils 11; thieves 40; seed 3; wears = 1 + day / 9; pays = value + day;";
        CapitalCase x = Due.town(text);
        x.set(0);
        for (int n = 0; n <= 60; n++) {
            CapitalCase later = Due.town(text);
            later.set(0);
            later.days(n);
            for (int i = 0; i < 3; i++) {
                int letter = i == 2 ? 7 : i;
                Due.due("pieces in " + n, x.then(0, letter, n, 0), later.house(0, letter, 0));
                Due.due("wear in " + n, x.then(0, letter, n, 1), later.house(0, letter, 3));
            }
            Due.due("paid in " + n, x.paidIn(n), later.count(3));
        }
        Due.due("in 0 days", x.then(0, 0, 0, 0), 3);
        Due.due("in 0 days", x.paidIn(0), 0);
        Due.due("in 60 days", x.paidIn(60), 7);
    }

    private static void thenNone() {
        Due.of("IN n DAYS of a HOUSE's LETTER: what 0 PIECES, 1 wear; NONE: no such ones.");
        CapitalCase x = Due.town(TOWN);
        Due.due("60", x.then(0, 0, 60, 0), 2);
        for (int no : new int[] {MIN, -1, 61, MAX}) {
            Due.due("no such n", x.then(0, 0, no, 0), -1);
        }
        for (int no : new int[] {MIN, -1, 2, 5, MAX}) {
            Due.due("no such house", x.then(no, 0, 1, 0), -1);
        }
        for (int no : new int[] {MIN, -1, 8, MAX}) {
            Due.due("no such letter", x.then(0, no, 1, 0), -1);
        }
        for (int no : NO_WHAT) {
            Due.due("no such what", x.then(0, 0, 1, no), -1);
        }
    }

    private static void paidInEdges() {
        Due.of("IN n DAYS what is PAID more; NONE: no such n.");
        CapitalCase x = Due.town(TOWN);
        Due.due("nothing is SET", x.paidIn(60), 0);
        x.set(0);
        Due.due("0", x.paidIn(0), 0);
        Due.due("1", x.paidIn(1), 5);
        Due.due("60", x.paidIn(60), 5);
        x.days(1);
        Due.due("more than so far", x.paidIn(60), 0);
        for (int no : new int[] {MIN, -1, 61, MAX}) {
            Due.due("paidIn(" + no + ")", x.paidIn(no), -1);
            Due.due("paidIn(" + no + ") of a new object", new CapitalCase().paidIn(no), -1);
        }
        Due.due("of a new object", new CapitalCase().paidIn(60), 0);
    }

    /** In how many of s seeds the one h is still there behind n days. */
    private static int seedsThatLeaveH(int seed, int thieves, int n, int s) {
        int count = 0;
        for (int i = seed; i < seed + s; i++) {
            boolean left = true;
            for (int day = 0; day < n; day++) {
                left = left && !(Lot.of(100, i, 4 * day) < thieves && Lot.of(8, i, 4 * day + 1) == 7);
            }
            count += left ? 1 : 0;
        }
        return count;
    }

    private static void year20() {
        Due.of("YEAR by s SEEDS (1 .. 20) from the text's SEED on: in how many of them a HOUSE has a PIECE of a LETTER in n DAYS (0 .. 60).");
        for (int seed : new int[] {0, 5, 9980, 9990, 9999}) {
            CapitalCase x = Due.town("house b a; house a h; thieves 50; seed " + seed + ";");
            for (int n : new int[] {0, 1, 5, 10, 59, 60}) {
                for (int s : new int[] {1, 2, 19, 20}) {
                    Due.due("seed " + seed + " year(1, 7, " + n + ", " + s + ")", x.year(1, 7, n, s), seedsThatLeaveH(seed, 50, n, s));
                }
            }
        }
        CapitalCase x = Due.town("house b a; house a h; thieves 100;");
        Due.due("it has none", x.year(0, 7, 0, 20), 0);
        Due.due("in 0 days", x.year(1, 7, 0, 20), 20);
        Due.due("without thieves", Due.town("house a h;").year(0, 7, 60, 20), 20);
    }

    private static void yearNone() {
        Due.of("YEAR; NONE: no such ones.");
        CapitalCase x = Due.town(TOWN);
        Due.due("1", x.year(0, 0, 60, 1), 1);
        Due.due("20", x.year(0, 0, 60, 20), 20);
        for (int no : new int[] {MIN, -1, 0, 21, MAX}) {
            Due.due("no such s", x.year(0, 0, 1, no), -1);
        }
        for (int no : new int[] {MIN, -1, 61, MAX}) {
            Due.due("no such n", x.year(0, 0, no, 1), -1);
        }
        for (int no : new int[] {MIN, -1, 2, 5, MAX}) {
            Due.due("no such house", x.year(no, 0, 1, 1), -1);
        }
        for (int no : new int[] {MIN, -1, 8, MAX}) {
            Due.due("no such letter", x.year(0, no, 1, 1), -1);
        }
    }
}
