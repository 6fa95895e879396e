/** The boundary cases of "Terms", II, and of promises 6 to 16: a test for each sentence that names one. */
public final class TownEdgesTest {
    private static final int MIN = Integer.MIN_VALUE;
    private static final int MAX = Integer.MAX_VALUE;
    private static final String LOWEST = "8192 * 8192 * 32";
    private static final String HIGHEST = "(8192 * 8192 * 32 - 1)";
    private static final String TOWN = "house a aab; house b ab; verse v ab 10 3; verse w aaa 7 0; verse u c 5 5;";

    public static void main(String[] args) {
        piecesLent();
        lentEachWay();
        varsOfTheVerse();
        firstIfThatHolds();
        wraps();
        roundedTowards0();
        dividedBy0();
        dividedBy0InEachLaw();
        varsOfWears();
        varsOfPays();
        varsOfLeaveAndRank();
        leaveMoreThan0();
        wearsHeld();
        paysHeld();
        lots();
        setOnce();
        mostRank();
        notSetAtAll();
        paidOnce();
        wearByPiecesInUse();
        spoilsOrMore();
        ifItHasOne();
        stillInUse();
        thievesLess();
        thievesTakeOfTheRichest();
        thievesFindNone();
        thievesTakeWhatIsInUse();
        asTheDayBegan();
        thievesBehindAllElse();
        houseNone();
        verseNone();
        verseStands();
        wantsNone();
        tellsNone();
        setRefused();
        clearRefused();
        lendRefused();
        giveBackRefused();
        daysRefused();
        days0();
        days60();
        undoNone();
        undoEach();
        undo30();
        fromEdges();
        fromNoneFirst();
        Due.end();
    }

    /** What house tells, from 0 on. */
    private static void house(CapitalCase x, int house, int letter, int... due) {
        for (int what = 0; what < due.length; what++) {
            Due.due("house(" + house + ", " + letter + ", " + what + ")", x.house(house, letter, what), due[what]);
        }
    }

    private static CapitalCase withLaw(String law, String told) {
        return Due.town("house a aab; house b ab; verse v ab 10 3; " + law + " = " + told + ";");
    }

    private static void law(String told, int due) {
        Due.due("rank = " + told, withLaw("rank", told).tells(0, 0, 0, 1), due);
    }

    private static void piecesLent() {
        Due.of("its own and those lent to it, less those that it lent");
        CapitalCase x = Due.town("house a aaaaaaaa; house b aaaaaaaa; house c aaaaaaaa; house d aaaaaaaa; house e aaaaaaaa;"
                + "verse p aaaaaaaa 1 1; verse q aaaaaaaa 1 1; verse r aaaaaaaa 1 1; verse s aaaaaaaa 1 1; verse t aaaaaaaa 1 1;");
        for (int i = 0; i < 32; i++) {
            Due.due("lend", x.lend(i / 8, 4, 0), true);
        }
        house(x, 0, 0, 0, 0, 0, 0, 8, 0);
        house(x, 4, 0, 40, 0, 40, 0, 0, 32);
        Due.due("none is left to lend", x.lend(3, 4, 0), false);
        Due.due("lent", x.count(15), 32);
        Due.due("all", x.count(6), 40);
        for (int verse = 0; verse < 5; verse++) {
            Due.due("set", x.set(verse), true);
        }
        house(x, 4, 0, 40, 40, 0, 0, 0, 32);
    }

    private static void lentEachWay() {
        Due.of("4 how many it lent, 5 how many are lent to it");
        CapitalCase x = Due.town("house a aaaaaaaa; house b aaaaaaaa; house c aaaaaaaa; house d aaaaaaaa; house e aaaaaaaa;");
        for (int house = 0; house < 5; house++) {
            for (int other = 0; other < 5; other++) {
                Due.due("lend", x.lend(house, other, 0), house != other);
            }
        }
        for (int house = 0; house < 5; house++) {
            house(x, house, 0, 8, 0, 8, 0, 4, 4);
        }
        for (int other = 1; other < 5; other++) {
            Due.due("give back", x.giveBack(0, other, 0), true);
            house(x, 0, 0, 8 - other, 0, 8 - other, 0, 4, 4 - other);
            house(x, other, 0, 9, 0, 9, 0, 3, 4);
        }
        Due.due("lent", x.count(15), 16);
    }

    private static void varsOfTheVerse() {
        Due.of("value, due, long (how many letters it wants): the VERSE's");
        CapitalCase x = Due.town("house a aab; house b ab; verse v ab 10 3; verse w abcabcab 99 0; verse u h 0 99;"
                + "rank = value * 1000 + due * 10 + long; leave = long - 2 + value * due;");
        int[] rank = {10032, 99008, 991};
        int[] leave = {1, 1, 0};
        for (int verse = 0; verse < 3; verse++) {
            Due.due("RANK", x.tells(0, 0, verse, 1), rank[verse]);
            Due.due("LEAVE of another", x.tells(0, 0, (verse + 1) % 3, 0), leave[(verse + 1) % 3]);
            Due.due("RANK", x.tells(1, 7, 2 - verse, 1), rank[2 - verse]);
        }
    }

    private static void firstIfThatHolds() {
        Due.of("the E of the first if that holds (one less than the other), else the last one");
        law("if 1 < 2 then 3 else 4", 3);
        law("if 2 < 2 then 3 else 4", 4);
        law("if 3 < 2 then 3 else 4", 4);
        law("if 1 < 2 then 3 else if 1 < 2 then 4 else 5", 3);
        law("if 2 < 2 then 3 else if 1 < 2 then 4 else 5", 4);
        law("if 2 < 2 then 3 else if 2 < 2 then 4 else if 2 < 2 then 5 else if 1 < 2 then 6 else 7", 6);
        law("if 2 < 2 then 3 else if 2 < 2 then 4 else if 2 < 2 then 5 else if 2 < 2 then 6 else 7", 7);
        law("if " + LOWEST + " < " + HIGHEST + " then 1 else 2", 1);
        law("if " + HIGHEST + " < " + LOWEST + " then 1 else 2", 2);
        law("if " + HIGHEST + " < " + HIGHEST + " + 1 then 1 else 2", 2);
    }

    private static void wraps() {
        Due.of("ints of 32 bits that wrap");
        law(LOWEST, MIN);
        law(HIGHEST, MAX);
        law(HIGHEST + " + 1", MIN);
        law("0 - " + LOWEST, MIN);
        law(LOWEST + " - 1", MAX);
        law(LOWEST + " * 2", 0);
        law(HIGHEST + " * 2", -2);
        law(HIGHEST + " * " + HIGHEST, 1);
        law(LOWEST + " / (0 - 1)", MIN);
        law("9999 * 9999 * 9999", -1027349969);
    }

    private static void roundedTowards0() {
        Due.of("/ rounded towards 0");
        law("7 / 2", 3);
        law("(0 - 7) / 2", -3);
        law("7 / (0 - 2)", -3);
        law("(0 - 7) / (0 - 2)", 3);
        law("1 / 2", 0);
        law("(0 - 1) / 2", 0);
        law("0 / 5", 0);
        law(LOWEST + " / 2", -1073741824);
        law(HIGHEST + " / (0 - 1)", -MAX);
        law("6 - 7 / 2 * 2", 0);
    }

    private static void dividedBy0() {
        Due.of("a LAW in which something that is looked at is divided by 0 is 0");
        law("1 / 0", 0);
        law("0 / 0", 0);
        law("7 + 1 / 0", 0);
        law("7 + 1 / 0 + 8", 0);
        law("7 - 0 * (1 / (2 - 2))", 0);
        law("1 / (1 / 2)", 0);
        law("if 1 / 0 < 1 then 5 else 6", 0);
        law("if 0 < 1 / 0 then 5 else 6", 0);
        law("if 0 < 1 then 1 / 0 else 6", 0);
        law("if 1 < 0 then 5 else 1 / 0", 0);
        law("if 1 < 0 then 5 else if 1 / 0 < 1 then 6 else 7", 0);
        law("if 0 < 1 then 5 else 1 / 0", 5);
        law("if 1 < 0 then 1 / 0 else 6", 6);
        law("if 0 < 1 then 5 else if 1 / 0 < 1 then 6 else 7", 5);
        law("if 1 < 0 then 1 / 0 else if 0 < 1 then 6 else 1 / 0", 6);
    }

    private static void dividedBy0InEachLaw() {
        Due.of("is divided by 0 is 0");
        CapitalCase x = Due.town("house a a; verse v a 9 1; leave = 1 + 1 / day; rank = 7 + 1 / day; wears = 5 + 1 / day; pays = 6 + 1 / day;");
        Due.due("LEAVE", x.tells(0, 0, 0, 0), 0);
        Due.due("RANK", x.tells(0, 0, 0, 1), 0);
        Due.due("WEARS", x.house(0, 0, 6), 0);
        Due.due("PAYS", x.verse(0, 4), 0);
        Due.due("no leave", x.set(0), false);
        x.days(1);
        Due.due("LEAVE", x.tells(0, 0, 0, 0), 1);
        Due.due("RANK", x.tells(0, 0, 0, 1), 8);
        Due.due("WEARS", x.house(0, 0, 6), 6);
        Due.due("PAYS", x.verse(0, 4), 7);
        Due.due("leave", x.set(0), true);
        // worn, has, lent, which, letter by which it is divided, each 0 for the one and not for the other
        x = Due.town("house a b; house b ab; verse v ab 10 3; rank = 1 + 6 / which;");
        Due.due("which 0", x.tells(0, 0, 0, 1), 0);
        Due.due("which 1", x.tells(1, 0, 0, 1), 7);
        x = Due.town("house a b; house b ab; verse v ab 10 3; rank = 1 + 6 / has;");
        Due.due("has 0", x.tells(0, 0, 0, 1), 0);
        Due.due("has 1", x.tells(1, 0, 0, 1), 7);
        x = Due.town("house a b; house b ab; verse v ab 10 3; rank = 1 + 6 / letter;");
        Due.due("letter 0", x.tells(0, 0, 0, 1), 0);
        Due.due("letter 1", x.tells(0, 1, 0, 1), 7);
    }

    private static void varsOfWears() {
        Due.of("the VERSE's (0 for WEARS)");
        CapitalCase x = Due.town("house a a; verse v a 50 60; wears = value + due + long + 2;");
        x.set(0);
        Due.due("0 and 2", x.house(0, 0, 6), 2);
        x.days(1);
        Due.due("0 and 2", x.house(0, 0, 3), 2);
        x = Due.town("house a a; verse v a 50 60; wears = 2 + 1 / value;");
        Due.due("divided by 0", x.house(0, 0, 6), 0);
    }

    private static void varsOfPays() {
        Due.of("PAYS (value, due, long, day; all else 0)");
        CapitalCase x = Due.town("house z a; house a aab; house b ab; verse v ab 10 3; rank = which; wears = 4;"
                + "pays = worn + has + which + letter + lent + value + due + long + day;");
        Due.due("value, due, long", x.verse(0, 4), 15);
        x.lend(1, 2, 0);
        x.set(0);
        x.days(2);
        Due.due("and day", x.verse(0, 4), 17);
        Due.due("paid", x.count(3), 15);
        x = Due.town("house a aab; house b ab; verse v ab 10 3; pays = 5 + 1 / has;");
        Due.due("divided by 0", x.verse(0, 4), 0);
    }

    private static void varsOfLeaveAndRank() {
        Due.of("worn: the HOUSE's wear of the LETTER; has: how many PIECES it has of it; which: its number; letter; lent: how many PIECES of it"
                + " it lent to others");
        CapitalCase x = Due.town("house a hhhhhhhh; house b h; verse v hhhhhhhh 99 99; wears = 9; spoils 99;"
                + "rank = worn * 1000 + has * 100 + which * 50 + letter * 5 + lent; leave = 80 - worn;");
        Due.due("8 pieces, letter 7", x.tells(0, 7, 0, 1), 835);
        Due.due("1 piece", x.tells(1, 7, 0, 1), 185);
        x.set(0);
        x.days(1);
        Due.due("worn by 72", x.tells(0, 7, 0, 1), 72835);
        Due.due("leave", x.tells(0, 7, 0, 0), 1);
        x.clear(0);
        x.lend(0, 1, 7);
        x.lend(0, 1, 7);
        Due.due("lent two", x.tells(0, 7, 0, 1), 72637);
        Due.due("two lent to it", x.tells(1, 7, 0, 1), 385);
        x.giveBack(1, 0, 7);
        Due.due("lent one", x.tells(0, 7, 0, 1), 72736);
    }

    private static void leaveMoreThan0() {
        Due.of("LEAVE: it gives a PIECE if that tells more than 0");
        String[] laws = {"0", "1", "0 - 1", LOWEST, HIGHEST, "1 / 2", "2 / 2"};
        int[] due = {0, 1, 0, 0, 1, 0, 1};
        for (int i = 0; i < laws.length; i++) {
            CapitalCase x = withLaw("leave", laws[i]);
            Due.due("leave = " + laws[i], x.tells(0, 0, 0, 0), due[i]);
            Due.due("can be set", x.count(14), due[i]);
            Due.due("is set", x.set(0), due[i] == 1);
        }
    }

    private static void wearsHeld() {
        Due.of("WEARS, held to 0 .. 9");
        String[] laws = {"0", "1", "8", "9", "10", "9999", "0 - 1", LOWEST, HIGHEST, "9 / 0"};
        int[] due = {0, 1, 8, 9, 9, 9, 0, 0, 9, 0};
        for (int i = 0; i < laws.length; i++) {
            CapitalCase x = withLaw("wears", laws[i]);
            Due.due("wears = " + laws[i], x.house(0, 0, 6), due[i]);
            x.set(0);
            x.days(1);
            Due.due("worn by wears = " + laws[i], x.house(0, 0, 3), due[i]);
        }
    }

    private static void paysHeld() {
        Due.of("held to 0 .. 99");
        String[] laws = {"0", "1", "98", "99", "100", "9999", "0 - 1", LOWEST, HIGHEST, "9 / 0"};
        int[] due = {0, 1, 98, 99, 99, 99, 0, 0, 99, 0};
        for (int i = 0; i < laws.length; i++) {
            CapitalCase x = withLaw("pays", laws[i]);
            Due.due("pays = " + laws[i], x.verse(0, 4), due[i]);
            Due.due("best", x.best(0), due[i]);
            x.set(0);
            x.days(1);
            Due.due("paid by pays = " + laws[i], x.count(3), due[i]);
        }
    }

    private static void lots() {
        Due.of("the rest of h, moved 1 bit down likewise, by n (32 bits that wrap)");
        for (int seed : new int[] {0, 1, 121, 4095, 9998, 9999}) {
            for (int day : new int[] {0, 1, 59, 600}) {
                int lot = Lot.of(100, seed, 4 * day);
                thieves(seed, day, lot, 0);
                thieves(seed, day, lot + 1, 1);
                CapitalCase x = onDay("house a abcdefgh; house b abcdefgh; thieves 0; seed " + seed + ";", day);
                Due.due("the day", x.count(2), day);
            }
            CapitalCase x = Due.town("house a abcdefgh; thieves 100; seed " + seed + ";");
            int[] left = {1, 1, 1, 1, 1, 1, 1, 1};
            for (int day = 0; day < 30; day++) {
                x.days(1);
                left[Lot.of(8, seed, 4 * day + 1)] = 0;
                for (int letter = 0; letter < 8; letter++) {
                    Due.due("seed " + seed + " day " + day + " letter " + letter, x.house(0, letter, 0), left[letter]);
                }
            }
        }
    }

    private static void thieves(int seed, int day, int thieves, int due) {
        CapitalCase x = onDay("thieves " + thieves + "; seed " + seed + ";", day);
        Due.due("seed " + seed + " day " + day + " thieves " + thieves, x.count(13), due);
    }

    private static CapitalCase onDay(String text, int day) {
        CapitalCase x = Due.town(text);
        for (int left = day; left > 0; left -= Math.min(60, left)) {
            x.days(Math.min(60, left));
        }
        return x;
    }

    private static void setOnce() {
        Due.of("A VERSE is SET (once, till it is CLEARED; a DONE one no more)");
        CapitalCase x = Due.town("house a aaa; verse v a 1 1;");
        Due.due("set", x.set(0), true);
        Due.due("set twice", x.set(0), false);
        Due.due("in use", x.count(7), 1);
        x.clear(0);
        Due.due("set anew", x.set(0), true);
        x.days(1);
        Due.due("DONE", x.set(0), false);
        x.clear(0);
        Due.due("DONE and CLEARED", x.set(0), false);
        Due.due("not in use", x.count(7), 0);
        x.undo();
        x.undo();
        x.clear(0);
        Due.due("DONE no more", x.set(0), true);
    }

    private static void mostRank() {
        Due.of("of those the one for which RANK tells most, of alike ones the first");
        String houses = "house a a; house b a; house c a; verse v aaa 1 1; rank = ";
        String[] laws = {"0", "which", "0 - which", LOWEST, "if which < 1 then " + LOWEST + " else " + LOWEST + " + 1",
            "if which < 2 then " + HIGHEST + " - 1 else " + HIGHEST, "if which < 1 then 1 / 0 else 0 - 1",
            "if which < 1 then 0 - 2 else 0 - 1", HIGHEST + " + which"};
        int[][] due = {{0, 1, 2}, {2, 1, 0}, {0, 1, 2}, {0, 1, 2}, {1, 2, 0}, {2, 0, 1}, {0, 1, 2}, {1, 2, 0}, {0, 2, 1}};
        for (int i = 0; i < laws.length; i++) {
            CapitalCase x = Due.town(houses + laws[i] + ";");
            for (int set = 0; set < 2; set++) {
                for (int at = 0; at < 3; at++) {
                    Due.due("rank = " + laws[i] + ", letter " + at, x.from(0, at), due[i][at]);
                }
                x.set(0);
            }
        }
        CapitalCase x = Due.town("house a a; house b aa; house c a; verse v aaa 1 1; rank = which * (2 - which); leave = 2 - which;");
        Due.due("FREE ones", x.from(0, 0), 1);
        Due.due("FREE ones", x.from(0, 1), 1);
        Due.due("LEAVE", x.from(0, 2), 0);
    }

    private static void notSetAtAll() {
        Due.of("if for one there is none, it is not SET at all");
        String text = "house a aab; house b ab; verse v aaaab 10 3; verse w bbab 7 0; verse u abc 5 5; verse t c 1 1;";
        for (int verse = 0; verse < 4; verse++) {
            int one = verse;
            Seen.nothingHappens(text, x -> x.days(1), x -> Due.due("set(" + one + ")", x.set(one), false));
        }
        Due.due("without houses", Due.town("verse v a 1 1;").set(0), false);
    }

    private static void paidOnce() {
        Due.of("is DONE, and has been PAID (what PAYS tells), with the first day that goes by so");
        CapitalCase x = Due.town("house a aab; verse v a 10 3; verse w b 99 9; pays = value + day;");
        x.set(0);
        Due.due("not yet", x.count(3), 0);
        x.days(0);
        Due.due("not yet", x.count(5), 0);
        x.days(1);
        Due.due("paid", x.count(3), 10);
        x.days(60);
        Due.due("once", x.count(3), 10);
        x.set(1);
        x.clear(1);
        x.days(1);
        Due.due("cleared ahead of the day", x.count(3), 10);
        Due.due("not DONE", x.count(5), 1);
        x.set(1);
        x.days(1);
        Due.due("99 at most", x.count(3), 109);
        Due.due("DONE", x.count(5), 3);
    }

    private static void wearByPiecesInUse() {
        Due.of("for each PIECE in use its HOUSE's wear of the LETTER is more by WEARS (999 at most)");
        CapitalCase x = Due.town("house a aaabb; house b aa; verse v aab 1 1; verse w a 1 1; wears = 9; spoils 99;");
        x.set(0);
        x.days(1);
        house(x, 0, 0, 3, 2, 1, 18);
        house(x, 0, 1, 2, 1, 1, 9);
        house(x, 1, 0, 2, 0, 2, 0);
        x.set(1);
        x.days(2);
        house(x, 0, 0, 3, 3, 0, 72);
        house(x, 0, 1, 2, 1, 1, 27);
        x.clear(0);
        x.clear(1);
        x.days(5);
        house(x, 0, 0, 3, 0, 3, 72);
        // the most that a day can wear: 40 pieces by 9
        x = Due.town("house a aaaaaaaa; house b aaaaaaaa; house c aaaaaaaa; house d aaaaaaaa; house e aaaaaaaa; wears = 9; spoils 99;"
                + "verse p aaaaaaaa 1 1; verse q aaaaaaaa 1 1; verse r aaaaaaaa 1 1; verse s aaaaaaaa 1 1; verse t aaaaaaaa 1 1;");
        for (int i = 0; i < 32; i++) {
            x.lend(i / 8, 4, 0);
        }
        for (int verse = 0; verse < 5; verse++) {
            x.set(verse);
        }
        x.days(1);
        house(x, 4, 0, 39, 40, 0, 0, 0, 32);
        Due.due("one PIECE is gone", x.count(8), 1);
    }

    private static void spoilsOrMore() {
        Due.of("if that is SPOILS or more then, one PIECE of it that the HOUSE has");
        int[] spoils = {5, 6, 7};
        int[] left = {2, 2, 3};
        int[] worn = {0, 0, 6};
        for (int i = 0; i < 3; i++) {
            CapitalCase x = Due.town("house a aaa; verse v aa 1 1; wears = 3; spoils " + spoils[i] + ";");
            x.set(0);
            x.days(1);
            house(x, 0, 0, left[i], 2, left[i] - 2, worn[i]);
        }
        CapitalCase x = Due.town("house a a; verse v a 1 1; spoils 1; wears = 0;");
        x.set(0);
        x.days(60);
        house(x, 0, 0, 1, 1, 0, 0);
    }

    private static void ifItHasOne() {
        Due.of("if it has one, is gone, and either way its wear of the LETTER is 0");
        CapitalCase x = Due.town("house a a; house b a; verse v a 1 1; spoils 2;");
        x.set(0);
        int[] worn = {1, 0, 1, 0, 1};
        int[] has = {1, 0, 0, 0, 0};
        int[] gone = {0, 1, 1, 1, 1};
        for (int day = 0; day < 5; day++) {
            x.days(1);
            house(x, 0, 0, has[day], 1, 0, worn[day]);
            Due.due("gone", x.count(8), gone[day]);
        }
        house(x, 1, 0, 1, 0, 1, 0);
        Due.due("another one's", x.count(6), 1);
    }

    private static void stillInUse() {
        Due.of("(what is in use stays so till it is CLEARED; then as many fewer are FREE)");
        CapitalCase x = Due.town("house a aa; house b b; verse v aa 1 1; verse w a 1 1; spoils 1;");
        x.set(0);
        x.days(1);
        house(x, 0, 0, 1, 2, 0);
        x.days(1);
        house(x, 0, 0, 0, 2, 0);
        x.days(1);
        house(x, 0, 0, 0, 2, 0);
        Due.due("from", x.from(0, 1), 0);
        Due.due("in use", x.count(7), 2);
        Due.due("gone", x.count(8), 2);
        x.clear(0);
        house(x, 0, 0, 0, 0, 0);
        Due.due("none is FREE", x.set(1), false);
        x.undo();
        x.undo();
        x.undo();
        house(x, 0, 0, 1, 2, 0);
        x.clear(0);
        house(x, 0, 0, 1, 0, 1);
        Due.due("one is FREE", x.set(1), true);
    }

    private static void thievesLess() {
        Due.of("On a day of THIEVES (LOT 100 of the SEED and 4 * the day is less than how many)");
        for (int day = 0; day < 8; day++) {
            int lot = Lot.of(100, 77, 4 * day);
            String text = "house a aabbccdd; house b eeffgghh; seed 77; thieves ";
            CapitalCase less = onDay("house a aabbccdd; house b eeffgghh; seed 77; thieves " + (lot + 1) + ";", day);
            CapitalCase notLess = onDay(text + lot + ";", day);
            int goneLess = less.count(8);
            int goneNotLess = notLess.count(8);
            Due.due("thieves", less.count(13), 1);
            Due.due("no thieves", notLess.count(13), 0);
            less.days(1);
            notLess.days(1);
            boolean found = less.count(6) < 16 - goneLess;
            Due.due("gone", less.count(8), found ? goneLess + 1 : goneLess);
            Due.due("none gone", notLess.count(8), goneNotLess);
        }
    }

    private static void thievesTakeOfTheRichest() {
        Due.of("of that HOUSE which has most of it, of alike ones the first, if one has any");
        // seed 0 takes h on days 0 and 5
        CapitalCase x = Due.town("house a h; house b hh; house c hh; thieves 100;");
        x.days(1);
        house(x, 0, 7, 1);
        house(x, 1, 7, 1);
        house(x, 2, 7, 2);
        x.days(5);
        house(x, 0, 7, 1);
        house(x, 1, 7, 1);
        house(x, 2, 7, 1);
        x = Due.town("house a h; house b h; thieves 100;");
        x.days(1);
        house(x, 0, 7, 0);
        house(x, 1, 7, 1);
        x.days(5);
        house(x, 1, 7, 0);
        Due.due("gone", x.count(8), 2);
        x = Due.town("house a a; house b a; house c a; house d a; house e h; thieves 100;");
        x.days(1);
        house(x, 4, 7, 0);
        Due.due("of five the last", x.count(8), 1);
        // pieces that are lent count where they are
        x = Due.town("house a h; house b h; thieves 100;");
        x.lend(0, 1, 7);
        x.days(1);
        house(x, 0, 7, 0, 0, 0, 0, 1, 0);
        house(x, 1, 7, 1, 0, 1, 0, 0, 1);
    }

    private static void thievesFindNone() {
        Due.of("if one has any");
        CapitalCase x = Due.town("house a abcdefg; house b abcdefg; thieves 100;");
        x.days(1);
        Due.due("no h is there", x.count(8), 0);
        Due.due("pieces", x.count(6), 14);
        Due.due("the next day", x.count(2), 1);
        x = Due.town("verse v h 1 1; thieves 100;");
        Due.due("no house is there", x.days(60), 60);
        Due.due("none gone", x.count(8), 0);
    }

    private static void thievesTakeWhatIsInUse() {
        Due.of("one PIECE of the LETTER LOT 8 of 4 * the day and 1 more is gone");
        CapitalCase x = Due.town("house a h; verse v h 9 1; thieves 100;");
        x.set(0);
        x.days(1);
        house(x, 0, 7, 0, 1, 0, 1);
        Due.due("paid all the same", x.count(3), 9);
        x.clear(0);
        house(x, 0, 7, 0, 0, 0, 1);
    }

    private static void asTheDayBegan() {
        Due.of("All by how all was as the day began");
        CapitalCase x = Due.town("house a aa; verse v aa 9 1; wears = worn + 1; pays = 10 + day; spoils 99;");
        x.set(0);
        x.days(1);
        Due.due("two by 1", x.house(0, 0, 3), 2);
        Due.due("paid by day 0", x.count(3), 10);
        x.days(1);
        Due.due("two by 3", x.house(0, 0, 3), 8);
        x = Due.town("house a aa; verse v aa 9 1; wears = has * 2 + day; spoils 1;");
        x.set(0);
        Due.due("two by 4", x.wornOut(0, 0), 1);
        x = Due.town("house a aa; verse v aa 9 1; wears = day; spoils 2;");
        x.set(0);
        x.days(1);
        house(x, 0, 0, 2, 2, 0, 0);
        x.days(1);
        house(x, 0, 0, 1, 2, 0, 0);
    }

    private static void thievesBehindAllElse() {
        Due.of("but THIEVES behind all else, by how it is then");
        CapitalCase x = Due.town("house a hh; house b hh; verse v h 1 1; thieves 100; spoils 1;");
        x.set(0);
        x.days(1);
        house(x, 0, 7, 1, 1, 0, 0);
        house(x, 1, 7, 1, 0, 1, 0);
        x = Due.town("house a h; verse v h 1 1; thieves 100; spoils 1;");
        x.set(0);
        x.days(1);
        house(x, 0, 7, 0, 1, 0, 0);
        Due.due("by wear alone", x.count(8), 1);
        // wear looks at what was there ahead of the thieves
        x = Due.town("house a h; verse v h 1 1; thieves 100; wears = has * 5;");
        x.set(0);
        x.days(1);
        house(x, 0, 7, 0, 1, 0, 5);
    }

    private static void houseNone() {
        Due.of("Of a HOUSE and a LETTER: what 0 PIECES, 1 in use, 2 FREE, 3 wear, 4 how many it lent, 5 how many are lent to it, 6 WEARS now."
                + " NONE for others.");
        for (int houses = 0; houses <= 5; houses++) {
            StringBuilder text = new StringBuilder();
            for (int house = 0; house < houses; house++) {
                text.append("house ").append((char) ('p' + house)).append(" hh;");
            }
            CapitalCase x = Due.town(text.toString());
            for (int house : new int[] {MIN, -1, 0, 1, 2, 3, 4, 5, 6, MAX}) {
                Due.due("house(" + house + ", 7, 0) of " + houses, x.house(house, 7, 0), house >= 0 && house < houses ? 2 : -1);
            }
        }
        CapitalCase x = Due.town("house a abcdefgh;");
        for (int letter : new int[] {MIN, -1, 0, 7, 8, MAX}) {
            Due.due("house(0, " + letter + ", 2)", x.house(0, letter, 2), letter == 0 || letter == 7 ? 1 : -1);
        }
        int[] whats = {MIN, -1, 0, 1, 2, 3, 4, 5, 6, 7, MAX};
        int[] due = {-1, -1, 1, 0, 1, 0, 0, 0, 1, -1, -1};
        for (int i = 0; i < whats.length; i++) {
            Due.due("house(0, 0, " + whats[i] + ")", x.house(0, 0, whats[i]), due[i]);
        }
    }

    private static void verseNone() {
        Due.of("4 PAYS now. NONE for others.");
        for (int verses = 0; verses <= 7; verses++) {
            StringBuilder text = new StringBuilder();
            for (int verse = 0; verse < verses; verse++) {
                text.append("verse ").append((char) ('p' + verse)).append(" a 5 6;");
            }
            CapitalCase x = Due.town(text.toString());
            for (int verse : new int[] {MIN, -1, 0, 1, 2, 3, 4, 5, 6, 7, 8, MAX}) {
                Due.due("verse(" + verse + ", 0) of " + verses, x.verse(verse, 0), verse >= 0 && verse < verses ? 5 : -1);
            }
        }
        CapitalCase x = Due.town("verse p abc 5 6;");
        int[] whats = {MIN, -1, 0, 1, 2, 3, 4, 5, MAX};
        int[] due = {-1, -1, 5, 6, 3, 0, 5, -1, -1};
        for (int i = 0; i < whats.length; i++) {
            Due.due("verse(0, " + whats[i] + ")", x.verse(0, whats[i]), due[i]);
        }
    }

    private static void verseStands() {
        Due.of("3: 0 OPEN, 1 SET, 2 DONE and SET, 3 DONE and CLEARED");
        CapitalCase x = Due.town("house a abcdefgh; verse p a 1 1; verse q b 1 1; verse r c 1 1; verse s d 1 1; verse t e 1 1;"
                + "verse u f 1 1; verse v g 1 1;");
        for (int verse : new int[] {0, 6}) {
            Due.due("OPEN", x.verse(verse, 3), 0);
            x.set(verse);
            Due.due("SET", x.verse(verse, 3), 1);
            x.days(1);
            Due.due("DONE and SET", x.verse(verse, 3), 2);
            x.clear(verse);
            Due.due("DONE and CLEARED", x.verse(verse, 3), 3);
            Due.due("another", x.verse(3, 3), 0);
        }
    }

    private static void wantsNone() {
        Due.of("The i-th letter that a VERSE wants (0 .. 7); NONE: no such ones.");
        CapitalCase x = Due.town("verse v h 1 1; verse w hgfedcba 1 1;");
        int[] places = {MIN, -1, 0, 1, 7, 8, MAX};
        int[] first = {-1, -1, 7, -1, -1, -1, -1};
        int[] second = {-1, -1, 7, 6, 0, -1, -1};
        for (int i = 0; i < places.length; i++) {
            Due.due("wants(0, " + places[i] + ")", x.wants(0, places[i]), first[i]);
            Due.due("wants(1, " + places[i] + ")", x.wants(1, places[i]), second[i]);
        }
        for (int no : new int[] {MIN, -1, 2, 7, MAX}) {
            Due.due("wants(" + no + ", 0)", x.wants(no, 0), -1);
        }
    }

    private static void tellsNone() {
        Due.of("what 0: 1 LEAVE, 0 none, 1 RANK; -1000000000: no such ones");
        CapitalCase x = Due.town(TOWN + "rank = 0 - 1; leave = 2;");
        int none = -1000000000;
        for (int no : new int[] {MIN, -1, 2, 3, 5, MAX}) {
            Due.due("no such house", x.tells(no, 0, 0, 1), none);
        }
        for (int no : new int[] {MIN, -1, 8, MAX}) {
            Due.due("no such letter", x.tells(0, no, 0, 1), none);
        }
        for (int no : new int[] {MIN, -1, 3, 7, MAX}) {
            Due.due("no such verse", x.tells(0, 0, no, 1), none);
        }
        for (int no : new int[] {MIN, -1, 2, MAX}) {
            Due.due("no such what", x.tells(0, 0, 0, no), none);
        }
        Due.due("LEAVE is 1", x.tells(1, 7, 2, 0), 1);
        Due.due("RANK", x.tells(1, 7, 2, 1), -1);
        Due.due("a letter that it does not want", x.tells(0, 5, 0, 1), -1);
        x.set(0);
        x.days(1);
        Due.due("of a DONE one, too", x.tells(0, 0, 0, 1), -1);
        Due.due("no houses", new CapitalCase().tells(0, 0, 0, 0), none);
    }

    private static void setRefused() {
        Due.of("false, and nothing happens: it is not OPEN, it can't be, no such VERSE");
        Seen.Calls ahead = x -> {
            x.set(0);
            x.hold(1);
        };
        Seen.nothingHappens(TOWN, ahead, x -> Due.due("SET", x.set(0), false));
        Seen.nothingHappens(TOWN, ahead, x -> Due.due("can't be", x.set(1), false));
        Seen.nothingHappens(TOWN, ahead, x -> Due.due("can't be", x.set(2), false));
        for (int no : new int[] {MIN, -1, 3, 7, 31, 32, MAX}) {
            Seen.nothingHappens(TOWN, ahead, x -> Due.due("no such verse", x.set(no), false));
        }
        Seen.nothingHappens(TOWN, x -> {
            x.set(0);
            x.days(1);
        }, x -> Due.due("DONE and SET", x.set(0), false));
        Seen.nothingHappens(TOWN, x -> {
            x.set(0);
            x.days(1);
            x.clear(0);
        }, x -> Due.due("DONE and CLEARED", x.set(0), false));
    }

    private static void clearRefused() {
        Due.of("CLEARED: true; false, and nothing happens: it is not SET, no such VERSE.");
        CapitalCase cleared = Due.town(TOWN);
        cleared.set(0);
        Due.due("clear", cleared.clear(0), true);
        cleared.set(0);
        cleared.days(1);
        Due.due("clear a DONE one", cleared.clear(0), true);
        for (int no : new int[] {MIN, -1, 1, 2, 3, 7, 32, MAX}) {
            Seen.nothingHappens(TOWN, x -> x.set(0), x -> Due.due("clear(" + no + ")", x.clear(no), false));
        }
        Seen.nothingHappens(TOWN, x -> {
            x.set(0);
            x.days(1);
            x.clear(0);
        }, x -> Due.due("DONE and CLEARED", x.clear(0), false));
        Seen.nothingHappens(TOWN, x -> {
            x.set(0);
            x.clear(0);
        }, x -> Due.due("OPEN again", x.clear(0), false));
    }

    private static void lendRefused() {
        Due.of("LENDS a FREE PIECE: true; false, and nothing happens: it has none, no such ones, one and the same.");
        Seen.Calls ahead = x -> {
            x.set(0);
            x.lend(0, 1, 0);
        };
        int[][] refused = {{0, 1, 0}, {0, 1, 1}, {0, 1, 7}, {1, 1, 0}, {0, 0, 0}, {-1, 1, 0}, {2, 1, 0}, {1, -1, 0}, {1, 2, 0}, {1, 0, -1},
            {1, 0, 8}, {MIN, 1, 0}, {MAX, 1, 0}, {1, MIN, 0}, {1, MAX, 0}, {1, 0, MIN}, {1, 0, MAX}, {2, 2, 0}, {-1, -1, 0}};
        for (int[] r : refused) {
            Seen.nothingHappens(TOWN, ahead, x -> Due.due("lend(" + r[0] + ", " + r[1] + ", " + r[2] + ")", x.lend(r[0], r[1], r[2]),
                    false));
        }
        CapitalCase x = Due.town(TOWN);
        ahead.on(x);
        Due.due("one is FREE", x.lend(1, 0, 0), true);
        // gone though in use: none is FREE
        x = Due.town("house a aa; house b b; verse v aa 1 1; spoils 1;");
        x.set(0);
        x.days(2);
        Due.due("fewer than in use", x.lend(0, 1, 0), false);
        x.clear(0);
        Due.due("none", x.lend(0, 1, 0), false);
    }

    private static void giveBackRefused() {
        Due.of("false, and nothing happens: it has none of that one, none FREE, no such ones, one and the same");
        Seen.Calls ahead = x -> {
            x.lend(0, 1, 0);
            x.lend(0, 1, 1);
        };
        int[][] refused = {{0, 1, 0}, {1, 0, 2}, {1, 1, 0}, {0, 0, 0}, {-1, 0, 0}, {2, 0, 0}, {1, -1, 0}, {1, 2, 0}, {1, 0, -1},
            {1, 0, 8}, {MIN, 0, 0}, {MAX, 0, 0}, {1, MIN, 0}, {1, MAX, 0}, {1, 0, MIN}, {1, 0, MAX}, {5, 5, 0}};
        for (int[] r : refused) {
            Seen.nothingHappens(TOWN, ahead, x -> Due.due("giveBack(" + r[0] + ", " + r[1] + ", " + r[2] + ")",
                    x.giveBack(r[0], r[1], r[2]), false));
        }
        // w takes all three a: none is FREE
        Seen.nothingHappens(TOWN, x -> {
            ahead.on(x);
            x.set(1);
        }, x -> Due.due("none FREE", x.giveBack(1, 0, 0), false));
        CapitalCase x = Due.town(TOWN);
        ahead.on(x);
        Due.due("give back", x.giveBack(1, 0, 0), true);
        Due.due("give back once", x.giveBack(1, 0, 0), false);
        Due.due("another letter", x.giveBack(1, 0, 1), true);
        // of three houses: only to the one that it is of
        x = Due.town("house a a; house b a; house c a;");
        x.lend(0, 2, 0);
        Due.due("of another one", x.giveBack(2, 1, 0), false);
        Due.due("by another one", x.giveBack(1, 0, 0), false);
        x.lend(2, 1, 0);
        x.lend(2, 1, 0);
        Due.due("none FREE, lent on", x.giveBack(2, 0, 0), false);
        Due.due("not of that one", x.giveBack(1, 0, 0), false);
        Due.due("back", x.giveBack(1, 2, 0), true);
        Due.due("and back", x.giveBack(2, 0, 0), true);
        Due.due("one is lent", x.count(15), 1);
    }

    private static void daysRefused() {
        Due.of("NONE, and nothing happens: no such n");
        for (int no : new int[] {MIN, -60, -1, 61, 100, MAX}) {
            Seen.nothingHappens(TOWN + "thieves 100;", x -> {
                x.set(0);
                x.days(2);
            }, x -> Due.due("days(" + no + ")", x.days(no), -1));
        }
    }

    private static void days0() {
        Due.of("n DAYS (0 .. 60; 0 is no thing done) go by: which it is");
        Seen.nothingHappens(TOWN + "thieves 100;", x -> {
            x.set(0);
            x.days(2);
        }, x -> Due.due("days(0)", x.days(0), 2));
        CapitalCase x = Due.town(TOWN);
        Due.due("days(0)", x.days(0), 0);
        Due.due("nothing can be undone", x.undo(), false);
        x.set(0);
        x.days(0);
        Due.due("the set is undone", x.undo(), true);
        Due.due("OPEN", x.verse(0, 3), 0);
    }

    private static void days60() {
        Due.of("go by: which it is");
        String text = TOWN + "thieves 60; seed 9; spoils 7; wears = 1 + day / 20;";
        CapitalCase atOnce = Due.town(text);
        CapitalCase oneByOne = Due.town(text);
        atOnce.set(0);
        oneByOne.set(0);
        Due.due("days(60)", atOnce.days(60), 60);
        for (int day = 1; day <= 60; day++) {
            Due.due("days(1)", oneByOne.days(1), day);
        }
        Due.due("one thing done", atOnce.count(10), 2);
        Due.due("the last 30", oneByOne.count(10), 30);
        for (int house = 0; house < 2; house++) {
            for (int letter = 0; letter < 8; letter++) {
                for (int what = 0; what <= 6; what++) {
                    Due.due("the same", atOnce.house(house, letter, what), oneByOne.house(house, letter, what));
                }
            }
        }
        Due.due("gone", atOnce.count(8), oneByOne.count(8));
        Due.due("undone at once", atOnce.undo(), true);
        Due.due("day 0", atOnce.count(2), 0);
        Due.due("60 more", Due.town("").days(60), 60);
    }

    private static void undoNone() {
        Due.of("is undone: true; false: there is none");
        CapitalCase x = new CapitalCase();
        Due.due("a new object", x.undo(), false);
        x.days(1);
        Due.due("one", x.undo(), true);
        Due.due("none", x.undo(), false);
        Due.due("day 0", x.count(2), 0);
        // what is no thing done
        Seen.nothingHappens(TOWN, a -> {
        }, a -> {
            a.set(9);
            a.clear(0);
            a.lend(0, 0, 0);
            a.giveBack(1, 0, 0);
            a.days(0);
            a.days(61);
            Due.due("none", a.undo(), false);
        });
        x = Due.town(TOWN);
        x.set(0);
        x.tell(0, 1, true);
        x.hold(0);
        x.forget();
        x.tell(0, 2, true);
        Due.feed(x, "abc");
        Due.due("the set", x.undo(), true);
        Due.due("OPEN", x.verse(0, 3), 0);
        Due.due("told stays", x.count(11), 1);
        Due.due("held stays", x.count(12), 1);
        Due.due("the tape stays", x.count(9), 3);
        Due.due("none", x.undo(), false);
    }

    private static void undoEach() {
        Due.of("The last thing done (set, clear, lend, giveBack, days) is undone");
        CapitalCase x = Due.town("house a aab; house b ab; verse v ab 10 3; spoils 1; thieves 100; seed 4;");
        String[] seen = new String[6];
        for (int i = 0; i < 6; i++) {
            seen[i] = Seen.of(x);
            boolean so = i == 0 && x.lend(0, 1, 0) || i == 1 && x.set(0) || i == 2 && x.days(1) == 1 || i == 3 && x.clear(0)
                    || i == 4 && x.giveBack(1, 0, 0);
            Due.due("thing " + i, so, i < 5);
        }
        for (int i = 4; i >= 0; i--) {
            Due.due("undo thing " + i, x.undo(), true);
            Due.due("all is as it was ahead of it: " + Seen.of(x) + " was " + seen[i], Seen.of(x).equals(seen[i]), true);
        }
        Due.due("none", x.undo(), false);
    }

    private static void undo30() {
        Due.of("(the last 30 can be)");
        for (int things : new int[] {29, 30, 31, 59, 60, 61, 95}) {
            CapitalCase x = Due.town(TOWN);
            for (int i = 0; i < things; i++) {
                x.days(1);
            }
            int can = Math.min(30, things);
            Due.due("can be undone of " + things, x.count(10), can);
            for (int i = 1; i <= can; i++) {
                Due.due("undo", x.undo(), true);
                Due.due("day", x.count(2), things - i);
                Due.due("left", x.count(10), can - i);
            }
            Due.due("no more of " + things, x.undo(), false);
            Due.due("day", x.count(2), things - can);
        }
        CapitalCase x = Due.town(TOWN);
        for (int i = 0; i < 40; i++) {
            x.days(1);
        }
        for (int i = 0; i < 20; i++) {
            x.undo();
        }
        for (int i = 0; i < 25; i++) {
            x.days(2);
        }
        Due.due("10 and 25 are more than 30", x.count(10), 30);
        for (int i = 0; i < 30; i++) {
            x.undo();
        }
        Due.due("25 by 2 and 5 by 1", x.count(2), 15);
        Due.due("no more", x.undo(), false);
    }

    private static void fromEdges() {
        Due.of("were it SET now; -2: it can't be SET; -3: it is DONE and CLEARED");
        CapitalCase x = Due.town(TOWN);
        Due.due("would be", x.from(0, 1), 0);
        Due.due("would be", x.from(1, 2), 1);
        Due.due("can't be", x.from(2, 0), -2);
        x.set(1);
        Due.due("is", x.from(1, 2), 1);
        Due.due("can't be now, not even its b", x.from(0, 1), -2);
        x.days(1);
        Due.due("DONE and SET", x.from(1, 2), 1);
        x.clear(1);
        Due.due("DONE and CLEARED", x.from(1, 2), -3);
        Due.due("would be", x.from(0, 0), 0);
        x.undo();
        Due.due("undone", x.from(1, 2), 1);
        Due.due("without houses", Due.town("verse v a 1 1;").from(0, 0), -2);
    }

    private static void fromNoneFirst() {
        Due.of("NONE (looked at first): no such ones");
        CapitalCase x = Due.town(TOWN);
        x.set(1);
        x.days(1);
        x.clear(1);
        for (int no : new int[] {MIN, -1, 3, 7, 8, MAX}) {
            Due.due("DONE and CLEARED, no such i", x.from(1, no), -1);
        }
        for (int no : new int[] {MIN, -1, 1, 8, MAX}) {
            Due.due("can't be SET, no such i", x.from(2, no), -1);
        }
        for (int no : new int[] {MIN, -1, 3, 7, MAX}) {
            Due.due("no such verse", x.from(no, 0), -1);
        }
        Due.due("no such verse nor i", x.from(-1, -1), -1);
    }
}
