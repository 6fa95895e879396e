/** The boundary cases of "Terms", I, and of promises 1 to 5: a test for each sentence that names one. */
public final class TextEdgesTest {
    private static final int BLANKS = 0x20202020;
    private static final String[] WORDS = {"house", "verse", "leave", "rank", "wears", "pays", "spoils", "thieves", "seed", "if",
        "then", "else", "value", "due", "day", "worn", "has", "which", "letter", "long", "lent"};
    private static final String FIVE = "house a a;house b a;house c a;house d a;house e a;";
    private static final String SEVEN = "verse p a 1 1;verse q a 1 1;verse r a 1 1;verse s a 1 1;verse t a 1 1;verse u a 1 1;"
            + "verse v a 1 1;";
    private static final String IF = "if 1 < 2 then 3 else ";

    public static void main(String[] args) {
        calls512();
        bytes2000();
        bytes();
        namesOf8();
        namesThatAreWords();
        intsOf4();
        longestTokens();
        houses5();
        verses7();
        oneMoreOfASort();
        piecesAsOften();
        letters0To7();
        numberedAsTheyStand();
        values();
        lawsUntold();
        lawsTwice();
        spoils();
        thieves();
        seeds();
        syntax();
        textEnd();
        tokens400();
        ifs4();
        brackets6();
        firstByPlace();
        leastOfOnePlace();
        syntaxAndRoomFirst();
        twice();
        wrong();
        letters();
        faultChangesNothing();
        textInPlace();
        newObject();
        feedOrder();
        feedFull();
        backEdges();
        readEmpties();
        placeOfLatest();
        Due.end();
    }

    /** A text with ^ at the place of its fault. */
    private static void fault(int number, String marked) {
        int place = marked.indexOf('^');
        Due.fault(marked.substring(0, place) + marked.substring(place + 1), number, place);
    }

    private static void fine(String text) {
        Due.fault(text, 0, -1);
    }

    private static void calls512() {
        Due.of("An object is used for at most 512 calls after it has been made");
        CapitalCase x = new CapitalCase();
        x.feed(0x686f7573, 0x65206120, 0x613b7665, 0x72736520, 0x76206120);
        x.feed(0x39392039, 0x393b2020, BLANKS, BLANKS, BLANKS);
        x.read();
        for (int call = 4; call <= 511; call++) {
            Due.due("call " + call, x.days(60), 60 * (call - 3));
        }
        Due.due("call 512", x.set(0), true);
    }

    private static void bytes2000() {
        Due.of("A TEXT has 2,000 bytes at most.");
        fine(" ".repeat(1990) + "house a a;");
        fault(1, " ".repeat(1989) + "house a a;^?");
        fault(1, "^?" + " ".repeat(1999));
        fault(1, " ".repeat(1991) + "house a a^");
        fault(1, " ".repeat(1994) + "seed 1^");
        CapitalCase x = Due.town("house a abcdefgh;" + " ".repeat(1972) + "house b hh;");
        Due.due("the first of 2000 bytes", x.house(0, 0, 0), 1);
        Due.due("the last of 2000 bytes", x.house(1, 7, 0), 2);
    }

    private static void bytes() {
        Due.of("TOKENS, the longest that can be, with blanks (9, 10, 13, 32) between or not");
        for (int b = 0; b < 256; b++) {
            char sign = (char) b;
            boolean blank = b == 9 || b == 10 || b == 13 || b == 32;
            boolean lower = b >= 97 && b <= 122;
            boolean digit = b >= 48 && b <= 57;
            boolean reckons = b == 43 || b == 45 || b == 42 || b == 47;
            at(blank ? -1 : 11, "house a ab;" + sign);
            at(blank ? -1 : lower ? 0 : 5, "house" + sign + "a ab;");
            at(lower ? -1 : blank ? 10 : 6, "house " + sign + " ab;");
            at(digit ? -1 : blank ? 6 : 5, "seed " + sign + ";");
            at(digit || reckons ? -1 : blank || b == ';' ? 9 : 8, "rank = 1" + sign + "2;");
            boolean letter = b >= 97 && b <= 104;
            Due.fault("verse v " + sign + "1 1;", letter ? 0 : lower ? 6 : 1, letter ? -1 : blank ? 9 : 8);
        }
    }

    private static void at(int place, String text) {
        Due.fault(text, place == -1 ? 0 : 1, place);
    }

    private static void namesOf8() {
        Due.of("NAMES (letters a .. z, 8 at most, none of the words in quotes)");
        fine("house a a;");
        fine("house z a;");
        fine("house zzzzzzzz aaaaaaaa;");
        fault(1, "house ^zzzzzzzzz a;");
        fault(1, "house a ^aaaaaaaaa;");
        fault(1, "verse ^abcdefghi a 1 1;");
        fault(1, "verse v ^abcdefgha 1 1;");
        fault(1, "house ^A a;");
        fault(1, "house a ^B;");
        fault(1, "house ab^C a;");
    }

    private static void namesThatAreWords() {
        Due.of("none of the words in quotes");
        for (int i = 0; i < WORDS.length; i++) {
            String word = WORDS[i];
            fault(1, "house ^" + word + " a;");
            fault(1, "house a ^" + word + ";");
            fault(1, "verse ^" + word + " a 1 1;");
            fault(1, "verse v ^" + word + " 1 1;");
            fine("house " + word + "x a; verse " + word.substring(0, word.length() - 1) + " a 1 1; house x" + word + " a;");
            boolean isVar = i >= 12;
            Due.fault("rank = " + word + ";", isVar ? 0 : 1, isVar ? -1 : word.equals("if") ? 9 : 7);
            Due.fault(word + "x;", 1, 0);
        }
    }

    private static void intsOf4() {
        Due.of("INTS (1 to 4 digits)");
        fine("seed 0;");
        fine("seed 9999;");
        fine("seed 0000;");
        fault(1, "seed ^10000;");
        fault(1, "seed ^00000;");
        fault(1, "rank = ^99999;");
        fault(1, "rank = 1 + ^00001 * 2;");
        fault(1, "verse v a ^00001 1;");
        fault(1, "verse v a 1 ^00001;");
        fault(1, "seed^;");
    }

    private static void longestTokens() {
        Due.of("A longer one, all else, is no TOKEN.");
        fault(1, "^houseabcd");
        fault(1, "^houses a a;");
        fault(1, "^housea a;");
        fault(1, "rank = ^dayday;");
        fault(1, "rank = ^ifday<1then2else3;");
        fine("rank=if 1<day then 2else day;");
        fault(1, "spoils 1 ^2;");
        fine("verse v a1 1;verse w b2\n2;");
        fault(1, "house a^1;");
        fault(1, "house a a;^_");
        fault(1, "house a a^.");
        fault(1, "rank = 1 ^> 2;");
    }

    private static void houses5() {
        Due.of("HOUSES, 5 at most");
        fine(FIVE);
        Due.due("five", Due.town(FIVE).count(0), 5);
        fault(2, FIVE + "^house f a;");
        fault(2, FIVE + SEVEN + "  ^house f a;");
        fault(2, FIVE + "rank = 1; ^house ?");
        fault(1, FIVE + "^houses");
    }

    private static void verses7() {
        Due.of("VERSES, 7 at most");
        fine(SEVEN + FIVE);
        Due.due("seven", Due.town(SEVEN).count(1), 7);
        fault(2, SEVEN + "^verse w a 1 1;");
        fault(2, SEVEN + FIVE + "\n^verse w a 1 1;");
        fault(2, SEVEN + "^verse");
        fine("rank = 1; leave = 1; wears = 1; pays = 1; spoils 1; thieves 1; seed 1;".repeat(14));
    }

    private static void oneMoreOfASort() {
        Due.of("one more of a sort than told (at its first TOKEN)");
        fault(2, FIVE + "\t ^house\t f a;");
        fault(2, SEVEN + "\t ^verse\t w a 1 1;");
        // what it lacks is behind it
        for (String rest : new String[] {"", ";", " house", " f", " f a", " f 5;", " ?", " abcdefghi"}) {
            fault(2, FIVE + "^house" + rest);
            fault(2, SEVEN + "^verse" + rest);
        }
        // the other sort has room
        fault(2, FIVE + "verse v a 1 1; ^house f a;");
        fault(2, SEVEN + "house f a; ^verse w a 1 1;");
        fault(1, FIVE + "^f house f a;");
    }

    private static void letters0To7() {
        Due.of("LETTERS a .. h are 0 .. 7.");
        CapitalCase x = Due.town("house z abbccc; house y ddddffff; house x eeeee; house w gghhhhhh; verse v abcdefgh 1 1;");
        int[] has = {1, 2, 3, 4, 5, 4, 2, 6};
        for (int letter = 0; letter < 8; letter++) {
            int sum = x.house(0, letter, 0) + x.house(1, letter, 0) + x.house(2, letter, 0) + x.house(3, letter, 0);
            Due.due("pieces of " + letter, sum, has[letter]);
            Due.due("wanted", x.wants(0, letter), letter);
        }
    }

    private static void piecesAsOften() {
        Due.of("a NAME, its PIECES: letters a .. h, each as often as it has it");
        CapitalCase x = Due.town("house a aaaaaaaa; house b hahahaha; verse v hhhhhhhh 1 1;");
        Due.due("eight", x.house(0, 0, 0), 8);
        Due.due("none", x.house(0, 7, 0), 0);
        Due.due("four", x.house(1, 0, 0), 4);
        Due.due("four", x.house(1, 7, 0), 4);
        Due.due("eight wanted", x.verse(0, 2), 8);
        Due.due("the last one", x.wants(0, 7), 7);
        // what stands right behind the letters is none of them
        x = Due.town("verse v b1 1;house h b;verse w bb2 2;");
        Due.due("one b", x.loans(0, 0), 0);
        Due.due("two b", x.loans(0, 1), -2);
        Due.due("no h", x.strike(128), 3);
        x = Due.town("house h b;" + " ".repeat(1977) + "verse v b1 1;");
        Due.due("at the text's end", x.loans(0, 0), 0);
    }

    private static void numberedAsTheyStand() {
        Due.of("numbered each from 0 on as they stand");
        CapitalCase x = Due.town("verse z b 3 4; house y h; verse x c 5 6; house w g; verse a d 7 8;");
        Due.due("verse 0", x.wants(0, 0), 1);
        Due.due("verse 1", x.wants(1, 0), 2);
        Due.due("verse 2", x.wants(2, 0), 3);
        Due.due("house 0", x.house(0, 7, 0), 1);
        Due.due("house 1", x.house(1, 6, 0), 1);
        Due.due("value", x.verse(2, 0), 7);
        Due.due("due", x.verse(2, 1), 8);
    }

    private static void values() {
        Due.of("VALUE 0 .. 99, DUE: in how many days 0 .. 99");
        fine("verse v a 0 0;");
        fine("verse v a 99 99;");
        fine("verse v a 0099 0099;");
        fault(5, "verse v a ^100 0;");
        fault(5, "verse v a 0 ^100;");
        fault(5, "verse v a ^0100 0;");
        fault(5, "verse v a ^9999 9999;");
        fault(5, "verse v a 1 ^9999;");
        CapitalCase x = Due.town("verse v a 99 0; verse w a 0 99;");
        Due.due("99", x.verse(0, 0), 99);
        Due.due("0", x.verse(0, 1), 0);
        Due.due("0", x.verse(1, 0), 0);
        Due.due("99", x.verse(1, 1), 99);
    }

    private static void lawsUntold() {
        Due.of("LAWS: LEAVE (1), RANK (0), WEARS (1), PAYS (value), if not told; the last one.");
        CapitalCase x = Due.town("house a a; house b a; verse v a 42 1;");
        Due.due("LEAVE", x.tells(1, 0, 0, 0), 1);
        Due.due("RANK", x.tells(1, 0, 0, 1), 0);
        Due.due("WEARS", x.house(1, 0, 6), 1);
        Due.due("PAYS", x.verse(0, 4), 42);
        Due.feed(x, "house a a; verse v a 42 1; leave = 0; rank = 3; wears = 4; pays = 5;");
        x.read();
        Due.feed(x, "house a a; verse v a 43 1;");
        x.read();
        Due.due("LEAVE, once it was told", x.tells(0, 0, 0, 0), 1);
        Due.due("RANK, once it was told", x.tells(0, 0, 0, 1), 0);
        Due.due("WEARS, once it was told", x.house(0, 0, 6), 1);
        Due.due("PAYS, once it was told", x.verse(0, 4), 43);
    }

    private static void lawsTwice() {
        Due.of("if not told; the last one");
        CapitalCase x = Due.town("leave = 0; rank = if 1 < 2 then 8 else 9; wears = 1 + 2 + 3; pays = 10; house a a; verse v a 42 1;"
                + "pays = 11; wears = 4; rank = 5; leave = 1;");
        Due.due("LEAVE", x.tells(0, 0, 0, 0), 1);
        Due.due("RANK", x.tells(0, 0, 0, 1), 5);
        Due.due("WEARS", x.house(0, 0, 6), 4);
        Due.due("PAYS", x.verse(0, 4), 11);
    }

    private static void spoils() {
        Due.of("SPOILS 1 .. 99 (20): from how much wear on a piece is gone");
        fine("spoils 1;");
        fine("spoils 99;");
        fault(5, "spoils ^0;");
        fault(5, "spoils ^0000;");
        fault(5, "spoils ^100;");
        fault(5, "spoils ^100; spoils 20;");
        Due.due("1", Due.town(worn("spoils 1;")).then(0, 0, 1, 0), 1);
        Due.due("untold", behindSet("", 19), 1);
        Due.due("untold", behindSet("", 20), 0);
        Due.due("1", behindSet("spoils 1;", 1), 0);
        Due.due("99", behindSet("spoils 99; wears = 9;", 10), 1);
        Due.due("99", behindSet("spoils 99; wears = 9;", 11), 0);
        Due.due("the last one", behindSet("spoils 1; spoils 4;", 3), 1);
        Due.due("the last one", behindSet("spoils 1; spoils 4;", 4), 0);
    }

    private static String worn(String laws) {
        return "house a a; verse v a 1 1;" + laws;
    }

    /** How many pieces are left behind n days in which the one piece is in use. */
    private static int behindSet(String laws, int n) {
        CapitalCase x = Due.town(worn(laws));
        x.set(0);
        x.days(n);
        return x.house(0, 0, 0);
    }

    private static void thieves() {
        Due.of("THIEVES: in how many of 100 days 0 .. 100 (0)");
        fine("thieves 0;");
        fine("thieves 100;");
        fault(5, "thieves ^101;");
        fault(5, "thieves ^9999;");
        CapitalCase all = Due.town("thieves 0; thieves 100;");
        CapitalCase none = Due.town("thieves 100; thieves 0;");
        CapitalCase untold = Due.town("");
        for (int day = 0; day < 100; day++) {
            Due.due("each day", all.count(13), 1);
            Due.due("no day", none.count(13), 0);
            Due.due("untold", untold.count(13), 0);
            all.days(1);
            none.days(1);
            untold.days(1);
        }
    }

    private static void seeds() {
        Due.of("SEED 0 .. 9999 (0): the last one.");
        fine("seed 0;");
        fine("seed 9999;");
        for (int seed : new int[] {0, 1, 9998, 9999}) {
            int lot = Lot.of(100, seed, 0);
            Due.due("less", Due.town("seed 7; seed " + seed + "; thieves " + (lot + 1) + ";").count(13), 1);
            Due.due("not less", Due.town("seed 7; seed " + seed + "; thieves " + lot + ";").count(13), 0);
        }
        int untold = Lot.of(100, 0, 0);
        CapitalCase x = Due.town("seed 77; thieves 1;");
        Due.feed(x, "thieves " + (untold + 1) + ";");
        x.read();
        Due.due("untold, once it was told, less", x.count(13), 1);
        Due.feed(x, "thieves " + untold + ";");
        x.read();
        Due.due("untold, once it was told, not less", x.count(13), 0);
        x.read();
        Due.due("THIEVES untold, once they were told", x.count(13), 0);
        Due.due("untold, less", Due.town("thieves " + (untold + 1) + ";").count(13), 1);
        Due.due("untold, not less", Due.town("thieves " + untold + ";").count(13), 0);
    }

    private static void syntax() {
        Due.of("1 SYNTAX: a TOKEN, or what is none, with which no text goes on.");
        String[] tells = {"house a ab;", "verse v ab 1 2;", "leave = if 1 < day then (2) else 3;", "rank = (1 + 2) * day;",
            "spoils 3;", "thieves 4;", "seed 5;"};
        for (String tell : tells) {
            fine(tell);
            fault(1, tell + "^;");
            fault(1, tell + "^?");
            fault(1, tell.substring(0, tell.length() - 1) + "^");
            fault(1, tell.substring(0, tell.length() - 1) + " ^?;");
            fault(1, tell.substring(0, tell.length() - 1) + " ^" + tell);
            fault(1, tell.substring(0, tell.indexOf(' ')) + "^;");
        }
        fault(1, "^= 1;");
        fault(1, "rank ^;");
        fault(1, "rank = ^;");
        fault(1, "rank = 1 + ^;");
        fault(1, "rank = (1 + 2^;");
        fault(1, "rank = 1^);");
        fault(1, "rank = ^+ 1;");
        fault(1, "rank = if 1 ^; 2 then 3 else 4;");
        fault(1, "rank = if 1 < 2 then 3 ^then 4;");
        fault(1, "rank = if 1 < 2 then ^if 1 < 2 then 3 else 4 else 5;");
        fault(1, "rank = 1 ^else 2;");
    }

    private static void textEnd() {
        Due.of("the first by its place (a byte; the text's end: its length)");
        fault(1, "house^");
        fault(1, "house a a^");
        fault(1, "house a a \n\t ^");
        fault(1, "rank =^");
        fault(1, "house a a" + " ".repeat(1991) + "^");
        fault(1, FIVE + "verse v a 1 1^");
    }

    private static void tokens400() {
        Due.of("2 ROOM: a 401st TOKEN");
        String of399 = "seed 1;".repeat(133);
        String of396 = "seed 1;".repeat(132);
        fine(of396 + "rank=1;");
        fine(of396 + "rank=1;  ");
        fault(2, of399 + "seed ^1;");
        fault(2, of396 + "rank=1;^seed 1;");
        fault(2, of396 + "rank=(1^);");
        fault(2, of396 + "rank=((^1));");
        fault(2, of396 + "rank=1+^1;");
        fault(2, of396 + "rank=1 *  ^1;");
        fault(2, of396 + "rank=(1 ^) ? ? ?");
        longestLaws();
    }

    private static void longestLaws() {
        CapitalCase x = new CapitalCase();
        for (int i = 0; i < 3; i++) {
            Due.feed(x, "house a a; wears = 1" + "+0".repeat(195) + "+7;");
            Due.due("400 TOKENS", x.read(), 0);
            Due.due("the longest WEARS", x.house(0, 0, 6), 8);
            Due.feed(x, "verse v a 1 1; pays = 1" + "+0".repeat(194) + "+7;");
            Due.due("399 TOKENS", x.read(), 0);
            Due.due("the longest PAYS", x.verse(0, 4), 8);
            Due.feed(x, "house a a; verse v a 1 1; rank = 1" + "+0".repeat(192) + "+7;");
            Due.due("400 TOKENS", x.read(), 0);
            Due.due("the longest RANK", x.tells(0, 0, 0, 1), 8);
        }
    }

    private static void ifs4() {
        Due.of("a 5th if of a LAW (at it)");
        for (String law : new String[] {"leave", "rank", "wears", "pays"}) {
            fine(law + " = " + IF.repeat(4) + "1;");
            fault(2, law + " = " + IF.repeat(4) + "^" + IF + "1;");
            fine((law + " = " + IF.repeat(4) + "1;").repeat(3));
            fault(2, law + " = " + IF + "1; " + law + " = " + IF.repeat(4) + "^if");
            fault(1, law + " = " + IF.repeat(4) + "1 ^if");
        }
    }

    private static void brackets6() {
        Due.of("a 7th ( within one another (at it)");
        String six = "((((((1))))))";
        fine("rank = " + six + ";");
        fine("rank = " + six + "+" + six + "*" + six + ";");
        fine("rank = (((((1)+(2))*(3)))) + (((((1)/" + "(2))))) ;");
        fine("rank = if " + six + " < " + six + " then " + six + " else " + six + ";");
        String deep = "1+1*(1+1*(1+1*(1+1*(1+1*(1+1*(1+1*1))))))";
        CapitalCase x = Due.town("house a a; verse v a 1 1; rank = if 0-1 < " + deep + " then " + deep + " else 7;"
                + "leave = if " + deep + " < 1+1*" + deep + " then 0 else 1;");
        Due.due("by the deepest ones", x.tells(0, 0, 0, 1), 8);
        Due.due("by the deepest ones", x.tells(0, 0, 0, 0), 0);
        fault(2, "rank = ((((((^(1)))))));");
        fault(2, "rank = ((((((^(");
        fault(2, "rank = 1 + ((2 * ((3 - ((4 / ^(5)))))));");
        fault(2, "rank = if ((((((^(1))))))) < 1 then 1 else 1;");
        fault(2, "rank = if 1 < ((((((^(1))))))) then 1 else 1;");
        fault(2, "rank = if 1 < 1 then ((((((^(1))))))) else 1;");
        fault(2, "rank = if 1 < 1 then 1 else ((((((^(1)))))));");
        fault(2, "rank = ((((1) + (2) + (3 + (4 + (5 + ^(6))))))));");
        fine("rank = ((((1) + (2) + (3 + (4 + (5 + 6)))))) + (1);");
    }

    private static void firstByPlace() {
        Due.of("FAULTS of a text, the first by its place");
        fault(1, "house a ^; house b a;" + FIVE);
        fault(2, FIVE + "^house f a; ?");
        fault(2, "rank = ((((((^(1))))))); rank = " + IF.repeat(5) + "1;");
        fault(2, "rank = " + IF.repeat(4) + "^" + IF + "1; rank = (((((((1)))))));");
        fault(3, "house a a; house ^a a; verse v i 100 1;");
        fault(5, "verse v a ^100 1; house v i;");
        fault(6, "house a ^i; house a a; spoils 0;");
        fault(6, "house a ^i; house b j;");
        fault(3, "house a a; house ^a a; house a a;");
        fault(5, "spoils ^0; thieves 101;");
        fault(3, "house a a; house ^a i;");
        fault(3, "house a a; verse ^a i 100 100;");
        fault(6, "verse v ^i 100 100;");
        fault(5, "verse v a ^100 100;");
    }

    private static void leastOfOnePlace() {
        Due.of("of one place the least");
        String of400 = "seed 1;".repeat(132) + "rank=1;";
        fault(1, of400 + "^;");
        fault(1, of400 + "^a");
        fault(1, of400 + "^1");
        fault(1, of400 + "^?");
        fault(1, "seed 1;".repeat(133) + "seed ^;");
        fault(1, "seed 1;".repeat(133) + "seed^");
        fault(2, FIVE + "seed 1;".repeat(125) + "rank=1;^house f a;");
    }

    private static void syntaxAndRoomFirst() {
        Due.of("If there is none, likewise");
        String[] later = {"house a a; house a a;", "spoils 0;", "house a i;", "verse v a 100 1;", "verse v i 1 1;"};
        for (String text : later) {
            fault(1, text + "^?");
            fault(1, text + "rank = ^;");
            fault(1, text + "seed 1^");
            fault(2, text + "rank = " + IF.repeat(4) + "^" + IF + "1;");
            fault(2, text + "rank = ((((((^(1)))))));");
        }
        fault(2, "spoils 0;" + "seed 1;".repeat(132) + "seed ^1;");
        fault(2, "house a i; house a a; house b a; house c a; house d a; ^house e a;");
    }

    private static void twice() {
        Due.of("3 TWICE: a NAME told already (of HOUSES and VERSES together)");
        fault(3, "house n a; house ^n a;");
        fault(3, "verse n a 1 1; verse ^n a 1 1;");
        fault(3, "house n a; verse ^n a 1 1;");
        fault(3, "verse n a 1 1; house ^n a;");
        fault(3, "house abcdefgh a; house b a; verse ^abcdefgh a 1 1;");
        fault(3, FIVE + SEVEN.replace("verse v", "verse ^e"));
        fault(3, "house n a; house ^n\ta;");
        fine("house a a; house aa a; verse aaa a 1 1; verse b a 1 1;");
        fine("house abcdefgh a; house abcdefgg a; house bbcdefgh a;");
        fine("house a b; house b a; verse c c 1 1; verse ab b 1 1;");
    }

    private static void wrong() {
        Due.of("5 WRONG (at the INT): a number not as told above.");
        fault(5, "verse v a   ^100 1;");
        fault(5, "verse v a 1\n^100;");
        fault(5, "verse v a1 ^100;");
        fault(5, "spoils\t^0;");
        fault(5, "thieves   ^101;");
        fine("rank = 9999 - 0; leave = 9999; wears = 100; pays = 9999;");
        fine("spoils 0001; thieves 0100; seed 0000;");
    }

    private static void letters() {
        Due.of("6 LETTERS (at it): PIECES, letters wanted that are not all a .. h.");
        fault(6, "house a   ^i;");
        fault(6, "house a ^ia;");
        fault(6, "house a ^abcdefgi;");
        fault(6, "house a ^abcz;");
        fault(6, "verse v ^i 1 1;");
        fault(6, "verse v ^aaaziaaa 1 1;");
        fault(6, FIVE.replace("house e a", "house e ^i"));
        fault(6, FIVE.replace("house e a", "house e ^hhhhhhhz"));
        fault(6, SEVEN.replace("verse v a", "verse v ^i"));
        fault(6, SEVEN.replace("verse v a", "verse v ^hhhhhhhz"));
        fine("house i h; verse zz hhhhhhhh 1 1;");
        fine("house a abcdefgh;");
    }

    private static final String AHEAD = "house a ab; house b a; verse v a 7 1; verse w b 5 1; thieves 100; seed 4; spoils 3;";

    private static void doMuch(CapitalCase x) {
        x.hold(1);
        x.set(0);
        x.lend(1, 0, 0);
        x.days(2);
        x.tell(0, 1, true);
        x.hold(2);
        x.clear(0);
    }

    private static void faultChangesNothing() {
        Due.of("A text with a FAULT changes nothing but the tape");
        String[] faults = {"?", "house a", FIVE + "house f a;", "house c h; house c h;", "house c h; spoils 0;", "house c h; house d i;",
            "leave = 0; rank = 9; pays = 9; wears = 9; spoils 9; thieves 0; seed 9; house x abcdefgh; verse y h 1 1; spoils 0;"};
        for (String text : faults) {
            CapitalCase x = Due.town(AHEAD);
            CapitalCase twin = Due.town(AHEAD);
            doMuch(x);
            doMuch(twin);
            Due.feed(x, text);
            Due.due("a fault", x.read() > 0, true);
            Due.due("the tape is empty", x.count(9), 0);
            Due.feed(twin, "?");
            twin.read();
            for (int i = 0; i < 3; i++) {
                String got = Seen.of(x).replaceAll("place.*", "");
                Due.due("nothing else: " + got, got.equals(Seen.of(twin).replaceAll("place.*", "")), true);
                Due.due("undone", x.undo(), twin.undo());
            }
            Due.due("held", x.restore(1), true);
        }
    }

    private static void textInPlace() {
        Due.of("else it is in place of the one ahead: day 0, nothing set, lent or worn; nothing can be undone, nothing is TOLD, SLOTS hold"
                + " nothing.");
        CapitalCase x = Due.town(AHEAD);
        doMuch(x);
        x.set(1);
        Due.due("in use", x.count(7), 1);
        Due.feed(x, AHEAD);
        x.read();
        Due.due("as a new one", Seen.of(x).equals(Seen.of(Due.town(AHEAD))), true);
        Due.due("undo", x.undo(), false);
        for (int slot = 0; slot < 3; slot++) {
            Due.due("restore", x.restore(slot), false);
        }
        Due.due("told", x.whose(1, 0), -1);
        Due.due("told anew", x.tell(0, 0, true), 0);
        Due.due("what a verse wants", x.loans(1, 1), 1);
        Due.due("what a verse wants", x.loans(1, 0), 0);
        doMuch(x);
        Due.due("an empty text", x.read(), 0);
        Due.due("as a new object", Seen.of(x).equals(Seen.of(new CapitalCase())), true);
    }

    private static void newObject() {
        Due.of("CapitalCase(): No HOUSES, no VERSES.");
        CapitalCase x = new CapitalCase();
        Due.due("houses", x.count(0), 0);
        Due.due("verses", x.count(1), 0);
        Due.due("house", x.house(0, 0, 0), -1);
        Due.due("verse", x.verse(0, 0), -1);
        Due.due("nothing is settable", x.count(14), 0);
        Due.due("day 0", x.count(2), 0);
        Due.due("empty", x.count(9), 0);
    }

    private static void feedOrder() {
        Due.of("Twenty bytes, the highest of a first, come behind the tape: how many it has.");
        for (int i = 0; i < 20; i++) {
            int[] fed = {BLANKS, BLANKS, BLANKS, BLANKS, BLANKS};
            fed[i / 4] = fed[i / 4] & ~(255 << 24 - i % 4 * 8) | 0x80 << 24 - i % 4 * 8;
            CapitalCase x = new CapitalCase();
            Due.due("feed", x.feed(BLANKS, BLANKS, BLANKS, BLANKS, BLANKS), 20);
            Due.due("feed", x.feed(fed[0], fed[1], fed[2], fed[3], fed[4]), 40);
            x.read();
            Due.due("byte " + i, x.place(), 20 + i);
        }
        CapitalCase x = new CapitalCase();
        Due.due("lowest", x.feed(Integer.MIN_VALUE, -1, 0, 1, Integer.MAX_VALUE), 20);
    }

    private static void feedFull() {
        Due.of("NONE, and nothing comes, if it would have more than 2,000.");
        CapitalCase x = new CapitalCase();
        for (int i = 1; i <= 100; i++) {
            Due.due("feed", x.feed(BLANKS, BLANKS, BLANKS, BLANKS, BLANKS), 20 * i);
        }
        for (int left = 0; left < 20; left++) {
            Due.due("feed with room for " + left, x.feed(-1, -1, -1, -1, -1), -1);
            Due.due("nothing comes", x.count(9), 2000 - left);
            x.back(1);
        }
        Due.due("feed with room for 20", x.feed(BLANKS, BLANKS, BLANKS, BLANKS, BLANKS), 2000);
        Due.due("no byte of those refused is there", x.read(), 0);
    }

    private static void backEdges() {
        Due.of("NONE, and nothing goes, if it has not so many, or n is below 0.");
        CapitalCase x = new CapitalCase();
        Due.due("back(0) of 0", x.back(0), 0);
        Due.due("back(1) of 0", x.back(1), -1);
        Due.due("back(-1) of 0", x.back(-1), -1);
        for (int i = 0; i < 100; i++) {
            x.feed(BLANKS, BLANKS, BLANKS, BLANKS, BLANKS);
        }
        for (int no : new int[] {2001, Integer.MAX_VALUE, -1, -2000, Integer.MIN_VALUE}) {
            Due.due("back(" + no + ") of 2000", x.back(no), -1);
            Due.due("nothing goes", x.count(9), 2000);
        }
        Due.due("back(0) of 2000", x.back(0), 2000);
        Due.due("back(1) of 2000", x.back(1), 1999);
        Due.due("back(2000) of 1999", x.back(2000), -1);
        Due.due("back(1999) of 1999", x.back(1999), 0);
        Due.feed(x, "house a abc");
        x.back(1);
        Due.feed(x, ";");
        x.read();
        Due.due("the last byte went", x.house(0, 2, 0), 0);
        Due.due("the one ahead stayed", x.house(0, 1, 0), 1);
        Due.feed(x, "seed 12345");
        x.back(1);
        x.read();
        Due.due("not with what went: at the text's end", x.place(), 9);
        Due.feed(x, "house a a;house b abcdefghi");
        x.back(1);
        x.read();
        Due.due("not with what went: at the text's end", x.place(), 26);
    }

    private static void readEmpties() {
        Due.of("The tape, which is empty then, is read: 0, or the number of its FAULT.");
        CapitalCase x = new CapitalCase();
        Due.due("an empty tape", x.read(), 0);
        for (String text : new String[] {"house a a;", "?", FIVE + "house f a;", "spoils 0;"}) {
            Due.feed(x, text);
            x.read();
            Due.due("empty behind " + text, x.count(9), 0);
            Due.due("nothing to go", x.back(1), -1);
        }
        Due.due("empty again", x.read(), 0);
    }

    private static void placeOfLatest() {
        Due.of("The byte of the latest read()'s FAULT; NONE without.");
        CapitalCase x = new CapitalCase();
        Due.due("no read yet", x.place(), -1);
        Due.feed(x, "house a a; ?");
        Due.due("not read yet", x.place(), -1);
        x.read();
        Due.due("byte 11", x.place(), 11);
        Due.feed(x, "?");
        x.hold(0);
        x.restore(0);
        Due.due("still", x.place(), 11);
        x.read();
        Due.due("byte 0", x.place(), 0);
        Due.feed(x, "house a a;");
        x.read();
        Due.due("without", x.place(), -1);
    }
}
