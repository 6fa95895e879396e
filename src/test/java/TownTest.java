/** Promises 6 to 16: what houses, verses and laws tell, and what is done by hand and by days. */
public final class TownTest {
    private static final String TOWN = "house ann aabc; house bob abd; verse one aab 10 3; verse two cd 7 0; verse three bd 4 1;";
    private static final int MIN = Integer.MIN_VALUE;
    private static final int MAX = Integer.MAX_VALUE;

    public static void main(String[] args) {
        promise6House();
        promise6GoneInUse();
        promise6Wears();
        promise7Verse();
        promise8Wants();
        promise9Tells();
        promise9Laws();
        promise10Set();
        promise11Clear();
        promise12Lend();
        promise13GiveBack();
        promise14Days();
        promise14Wear();
        promise14Thieves();
        promise15Undo();
        promise16From();
        Due.end();
    }

    private static void house(CapitalCase x, int house, int letter, int... due) {
        for (int what = 0; what < due.length; what++) {
            Due.due("house(" + house + ", " + letter + ", " + what + ")", x.house(house, letter, what), due[what]);
        }
    }

    private static void promise6House() {
        CapitalCase x = Due.town(TOWN);
        house(x, 0, 0, 2, 0, 2, 0, 0, 0, 1);
        house(x, 0, 3, 0, 0, 0, 0, 0, 0, 1);
        house(x, 1, 3, 1, 0, 1, 0, 0, 0, 1);
        x.set(0);
        house(x, 0, 0, 2, 2, 0, 0, 0, 0, 1);
        house(x, 0, 1, 1, 1, 0, 0, 0, 0, 1);
        x.days(1);
        x.lend(1, 0, 0);
        house(x, 0, 0, 3, 2, 1, 2, 0, 1, 1);
        house(x, 1, 0, 0, 0, 0, 0, 1, 0, 1);
        for (int no : new int[] {-1, 2, 5, MIN, MAX}) {
            Due.due("no such house", x.house(no, 0, 0), -1);
        }
        for (int no : new int[] {-1, 8, MIN, MAX}) {
            Due.due("no such letter", x.house(0, no, 0), -1);
        }
        for (int no : new int[] {-1, 7, MIN, MAX}) {
            Due.due("no such what", x.house(0, 0, no), -1);
        }
    }

    private static void promise6GoneInUse() {
        CapitalCase x = Due.town("house a a; house b aa; verse v aaa 1 9; spoils 1;");
        x.set(0);
        x.days(1);
        house(x, 0, 0, 0, 1, 0, 0);
        house(x, 1, 0, 1, 2, 0, 0);
        Due.due("gone", x.count(8), 2);
        x.days(1);
        house(x, 0, 0, 0, 1, 0, 0);
        house(x, 1, 0, 0, 2, 0, 0);
        Due.due("gone", x.count(8), 3);
        x.clear(0);
        house(x, 0, 0, 0, 0, 0, 0);
        house(x, 1, 0, 0, 0, 0, 0);
    }

    private static void promise6Wears() {
        CapitalCase x = Due.town("house a a; verse v a 50 50; wears = 10;");
        Due.due("9 at most", x.house(0, 0, 6), 9);
        x = Due.town("house a a; verse v a 50 50; wears = 0 - 3;");
        Due.due("0 at least", x.house(0, 0, 6), 0);
        x = Due.town("house a a; house b aab; wears = value + due + long + has + which * 3 + letter + lent + worn;");
        Due.due("no verse's", x.house(0, 0, 6), 1);
        Due.due("has, which", x.house(1, 0, 6), 5);
        Due.due("has, which, letter", x.house(1, 1, 6), 5);
        x.lend(1, 0, 0);
        Due.due("has, which, lent", x.house(1, 0, 6), 5);
        Due.due("letter", x.house(0, 7, 6), 7);
        x = Due.town("house a a; wears = day;");
        x.days(4);
        Due.due("day", x.house(0, 0, 6), 4);
    }

    private static void promise7Verse() {
        CapitalCase x = Due.town(TOWN);
        int[] due = {10, 3, 3, 0, 10};
        for (int what = 0; what < 5; what++) {
            Due.due("verse(0, " + what + ")", x.verse(0, what), due[what]);
        }
        x.set(0);
        Due.due("SET", x.verse(0, 3), 1);
        x.clear(0);
        Due.due("OPEN", x.verse(0, 3), 0);
        x.set(0);
        x.days(1);
        Due.due("DONE and SET", x.verse(0, 3), 2);
        x.clear(0);
        Due.due("DONE and CLEARED", x.verse(0, 3), 3);
        for (int no : new int[] {-1, 3, 7, MIN, MAX}) {
            Due.due("no such verse", x.verse(no, 0), -1);
        }
        for (int no : new int[] {-1, 5, MIN, MAX}) {
            Due.due("no such what", x.verse(0, no), -1);
        }
        x = Due.town("house h aabc; verse v aab 10 3; verse w a 99 1;"
                + "pays = value * 2 - day * 3 + due + long + worn + has + which + letter + lent;");
        Due.due("PAYS", x.verse(0, 4), 26);
        Due.due("99 at most", x.verse(1, 4), 99);
        x.days(5);
        Due.due("PAYS on day 5", x.verse(0, 4), 11);
        x.days(5);
        Due.due("0 at least", x.verse(0, 4), 0);
    }

    private static void promise8Wants() {
        CapitalCase x = Due.town("verse v hgfedcba 1 1; verse w ba 1 1;");
        for (int i = 0; i < 8; i++) {
            Due.due("wants(0, " + i + ")", x.wants(0, i), 7 - i);
        }
        Due.due("wants(1, 0)", x.wants(1, 0), 1);
        Due.due("wants(1, 1)", x.wants(1, 1), 0);
        Due.due("wants(1, 2)", x.wants(1, 2), -1);
        Due.due("wants(0, 8)", x.wants(0, 8), -1);
        Due.due("wants(0, -1)", x.wants(0, -1), -1);
        Due.due("wants(2, 0)", x.wants(2, 0), -1);
        Due.due("wants(-1, 0)", x.wants(-1, 0), -1);
        Due.due("wants(MAX, MAX)", x.wants(MAX, MAX), -1);
    }

    private static void promise9Tells() {
        CapitalCase x = Due.town("house a aab; house b ab; verse v ab 10 3; verse w b 2 5;"
                + "rank = value * 100 + due * 10 + long; leave = due - 4;");
        Due.due("RANK", x.tells(0, 0, 0, 1), 1032);
        Due.due("RANK", x.tells(0, 7, 1, 1), 251);
        Due.due("no LEAVE", x.tells(0, 0, 0, 0), 0);
        Due.due("LEAVE", x.tells(0, 0, 1, 0), 1);
        for (int no : new int[] {-1, 2, MIN, MAX}) {
            Due.due("no such house", x.tells(no, 0, 0, 0), -1000000000);
            Due.due("no such verse", x.tells(0, 0, no, 0), -1000000000);
            Due.due("no such what", x.tells(0, 0, 0, no), -1000000000);
        }
        Due.due("no such letter", x.tells(0, 8, 0, 0), -1000000000);
        Due.due("no such letter", x.tells(0, -1, 0, 0), -1000000000);
        x = Due.town("house a aab; house b ab; verse v ab 10 3; leave = 3 - worn;"
                + "rank = worn * 9000 + has * 1000 + which * 100 + letter * 10 + lent + day * 5000;");
        Due.due("has, which, letter", x.tells(0, 0, 0, 1), 2000);
        Due.due("has, which, letter", x.tells(1, 1, 0, 1), 1110);
        x.set(0);
        x.days(2);
        x.clear(0);
        x.lend(0, 1, 0);
        Due.due("worn, has, lent, day", x.tells(0, 0, 0, 1), 29001);
        Due.due("lent to it", x.tells(1, 0, 0, 1), 12100);
        Due.due("LEAVE by wear", x.tells(0, 0, 0, 0), 1);
    }

    private static void law(String law, int due) {
        CapitalCase x = Due.town("house a aab; house b ab; verse v ab 10 3; rank = " + law + "; leave = " + law + ";");
        Due.due("rank = " + law, x.tells(0, 0, 0, 1), due);
        Due.due("leave = " + law, x.tells(0, 0, 0, 0), due > 0 ? 1 : 0);
    }

    private static void promise9Laws() {
        law("9999 * 9999 * 9999", -1027349969);
        law("8192 * 8192 * 32", MIN);
        law("8192 * 8192 * 32 / (0 - 1)", MIN);
        law("8192 * 8192 * 32 - 1", MAX);
        law("(0 - 7) / 2", -3);
        law("7 / (0 - 2)", -3);
        law("10 - 2 - 3", 5);
        law("100 / 5 / 2", 10);
        law("100 / 5 * 2", 40);
        law("2 + 3 * 4", 14);
        law("(2 + 3) * 4", 20);
        law("2 * 3 + 4 * 5 - 6 / 2", 23);
        law("0", 0);
        law("1 / 0", 0);
        law("5 + 0 * (1 / 0)", 0);
        law("5 + 3 / (value - 10)", 0);
        law("if 1 < 2 then 5 else 1 / 0", 5);
        law("if 1 / 0 < 2 then 5 else 6", 0);
        law("if 1 < 2 / 0 then 5 else 6", 0);
        law("if 2 < 1 then 1 / 0 else 6", 6);
        law("if 1 < 2 then 1 / 0 else 6", 0);
        law("if 2 < 1 then 5 else if 1 / 0 < 3 then 6 else 7", 0);
        law("if 2 < 2 then 5 else 6", 6);
        law("if 2 < 1 then 5 else if 1 < 3 then 6 else 7", 6);
        law("if 2 < 1 then 3 else if 2 < 1 then 4 else if 2 < 1 then 5 else if 1 < 2 then 6 else 7", 6);
        law("if 1 < 2 then 3 else if 1 < 2 then 4 else 5", 3);
        law("if 0 - 5 < 0 - 4 then 3 else 4", 3);
        law("if value < due then long else value - due * long", 4);
    }

    private static void promise10Set() {
        CapitalCase x = Due.town("house a ab; house b aab; house c a; verse v aaab 5 5; verse w aa 1 1; verse u a 1 1; rank = has;");
        Due.due("set(0)", x.set(0), true);
        int[] from = {1, 1, 0, 0};
        for (int i = 0; i < 4; i++) {
            Due.due("from(0, " + i + ")", x.from(0, i), from[i]);
        }
        Due.due("set twice", x.set(0), false);
        Due.due("one is there, two are not", x.set(1), false);
        house(x, 2, 0, 1, 0, 1);
        Due.due("undoable", x.count(10), 1);
        Due.due("one is there", x.set(2), true);
        Due.due("from(2, 0)", x.from(2, 0), 2);
        for (int no : new int[] {-1, 3, 7, MIN, MAX}) {
            Due.due("no such verse", x.set(no), false);
        }
        x.clear(0);
        Due.due("set anew", x.set(0), true);
        x.days(1);
        Due.due("DONE and SET", x.set(0), false);
        x.clear(0);
        Due.due("DONE and CLEARED", x.set(0), false);
        x = Due.town("house a a; house b a; verse v a 5 5; verse w a 2 5; leave = if which < 1 then 3 - value else 1;");
        Due.due("leave by the second alone", x.set(0), true);
        Due.due("from the second", x.from(0, 0), 1);
        Due.due("leave by the first", x.set(1), true);
        Due.due("from the first", x.from(1, 0), 0);
        x = Due.town("house a a; house b a; house c a; verse v aaa 5 5; rank = 0 - which * (2 - which);");
        x.set(0);
        int[] ranked = {0, 2, 1};
        for (int i = 0; i < 3; i++) {
            Due.due("by rank, of alike ones the first", x.from(0, i), ranked[i]);
        }
    }

    private static void promise11Clear() {
        CapitalCase x = Due.town(TOWN);
        Due.due("not SET", x.clear(0), false);
        x.set(0);
        x.set(2);
        Due.due("in use", x.count(7), 5);
        Due.due("clear", x.clear(0), true);
        Due.due("in use", x.count(7), 2);
        house(x, 0, 0, 2, 0, 2);
        Due.due("SET ones", x.count(4), 4);
        Due.due("clear twice", x.clear(0), false);
        x.days(1);
        Due.due("clear a DONE one", x.clear(2), true);
        Due.due("clear it twice", x.clear(2), false);
        Due.due("DONE stays", x.count(5), 4);
        Due.due("undoable", x.count(10), 5);
        for (int no : new int[] {-1, 3, MIN, MAX}) {
            Due.due("no such verse", x.clear(no), false);
        }
    }

    private static void promise12Lend() {
        CapitalCase x = Due.town("house a aab; house b ab; house c c; verse v aab 1 1;");
        Due.due("lend", x.lend(0, 1, 0), true);
        Due.due("lend", x.lend(0, 2, 0), true);
        Due.due("it has none", x.lend(0, 1, 0), false);
        house(x, 0, 0, 0, 0, 0, 0, 2, 0);
        house(x, 1, 0, 2, 0, 2, 0, 0, 1);
        house(x, 2, 0, 1, 0, 1, 0, 0, 1);
        Due.due("lent", x.count(15), 2);
        Due.due("what was lent to it is lent on", x.lend(1, 2, 0) && x.lend(1, 2, 0), true);
        house(x, 1, 0, 0, 0, 0, 0, 2, 1);
        house(x, 2, 0, 3, 0, 3, 0, 0, 3);
        Due.due("one and the same", x.lend(2, 2, 0), false);
        x.set(0);
        Due.due("one is FREE", x.lend(2, 0, 0), true);
        Due.due("none is FREE", x.lend(2, 0, 0), false);
        Due.due("all pieces", x.count(6), 6);
        for (int no : new int[] {-1, 3, 5, MIN, MAX}) {
            Due.due("no such house", x.lend(no, 1, 2), false);
            Due.due("no such other", x.lend(2, no, 2), false);
        }
        Due.due("no such letter", x.lend(2, 1, 8), false);
        Due.due("no such letter", x.lend(2, 1, -1), false);
        Due.due("undoable", x.count(10), 6);
    }

    private static void promise13GiveBack() {
        CapitalCase x = Due.town("house a aab; house b ab; verse v aaa 1 1; verse w a 1 1; rank = which; spoils 1;");
        Due.due("has none of that one", x.giveBack(1, 0, 0), false);
        x.lend(0, 1, 0);
        Due.due("the lender has none of it", x.giveBack(0, 1, 0), false);
        Due.due("another letter", x.giveBack(1, 0, 1), false);
        Due.due("give back", x.giveBack(1, 0, 0), true);
        house(x, 0, 0, 2, 0, 2, 0, 0, 0);
        house(x, 1, 0, 1, 0, 1, 0, 0, 0);
        Due.due("lent", x.count(15), 0);
        Due.due("once", x.giveBack(1, 0, 0), false);
        x.lend(0, 1, 0);
        x.set(0);
        Due.due("none FREE", x.giveBack(1, 0, 0), false);
        x.days(1);
        x.clear(0);
        // each lost one, and the other one of the second house is given back
        house(x, 0, 0, 0, 0, 0, 0, 1, 0);
        house(x, 1, 0, 1, 0, 1, 0, 0, 1);
        Due.due("give back what is left", x.giveBack(1, 0, 0), true);
        house(x, 0, 0, 1, 0, 1, 0, 0, 0);
        house(x, 1, 0, 0, 0, 0, 0, 0, 0);
        Due.due("one and the same", x.giveBack(0, 0, 0), false);
        for (int no : new int[] {-1, 2, 5, MIN, MAX}) {
            Due.due("no such house", x.giveBack(no, 0, 0), false);
            Due.due("no such other", x.giveBack(1, no, 0), false);
        }
        Due.due("no such letter", x.giveBack(1, 0, 8), false);
        Due.due("no such letter", x.giveBack(1, 0, -1), false);
        x = Due.town("house a a; house b b; verse v a 1 1; spoils 1;");
        x.lend(0, 1, 0);
        x.set(0);
        x.days(1);
        x.clear(0);
        Due.due("what was lent is gone", x.giveBack(1, 0, 0), false);
        Due.due("it is lent all the same", x.count(15), 1);
    }

    private static void promise14Days() {
        CapitalCase x = Due.town(TOWN + "pays = value + day * 10;");
        Due.due("days(0)", x.days(0), 0);
        Due.due("no thing done", x.count(10), 0);
        for (int no : new int[] {-1, 61, MIN, MAX}) {
            Due.due("no such n", x.days(no), -1);
        }
        Due.due("days(2)", x.days(2), 2);
        x.set(2);
        Due.due("days(1)", x.days(1), 3);
        Due.due("paid by the day as it began", x.count(3), 24);
        Due.due("DONE", x.count(5), 4);
        x.set(0);
        Due.due("days(60)", x.days(60), 63);
        Due.due("each is paid once", x.count(3), 24 + 40);
        Due.due("DONE", x.count(5), 5);
        Due.due("still SET", x.count(4), 5);
        Due.due("days(0)", x.days(0), 63);
        Due.due("undoable", x.count(10), 5);
    }

    private static void promise14Wear() {
        CapitalCase x = Due.town("house a aaa; verse v aa 1 1; wears = 1 + worn * 2 + day; spoils 40;");
        x.set(0);
        int[] worn = {2, 14};
        for (int due : worn) {
            x.days(1);
            Due.due("all by how it was as the day began", x.house(0, 0, 3), due);
        }
        x.days(1);
        Due.due("WEARS 9 at most", x.house(0, 0, 3), 32);
        Due.due("none gone", x.count(8), 0);
        x.days(1);
        Due.due("wear begins anew", x.house(0, 0, 3), 0);
        Due.due("one gone", x.house(0, 0, 0), 2);
        x = Due.town("house a a; verse v a 1 1; wears = 5; spoils 10;");
        x.set(0);
        x.days(1);
        Due.due("less than SPOILS", x.house(0, 0, 0), 1);
        x.days(1);
        Due.due("just SPOILS", x.house(0, 0, 0), 0);
        Due.due("one gone", x.count(8), 1);
    }

    /** LOTs of seed 0 on days 0 .. 9: 50 1 43 99 47 10 60 36 76 67 of 100, h a f c c h a b f c of 8. */
    private static void promise14Thieves() {
        CapitalCase x = Due.town("house a abcdefgh; house b abcdefgh; thieves 100;");
        int[][] taken = {{0, 7}, {0, 0}, {0, 5}, {0, 2}, {1, 2}, {1, 7}, {1, 0}, {0, 1}, {1, 5}};
        for (int day = 0; day < taken.length; day++) {
            Due.due("not yet", x.house(taken[day][0], taken[day][1], 0), 1);
            x.days(1);
            Due.due("taken", x.house(taken[day][0], taken[day][1], 0), 0);
            Due.due("gone", x.count(8), day + 1);
        }
        x.days(1);
        Due.due("no one has any", x.count(8), 9);
        x = Due.town("house a a; house b aaa; house c aaa; thieves 44;");
        for (int day = 0; day < 10; day++) {
            boolean come = day == 1 || day == 2 || day == 5 || day == 7;
            Due.due("thieves on day " + day, x.count(13), come ? 1 : 0);
            x.days(1);
        }
        house(x, 0, 0, 1);
        house(x, 1, 0, 2);
        house(x, 2, 0, 3);
        x = Due.town("house a a; thieves 43;");
        x.days(2);
        Due.due("just as many are not less", x.count(13), 0);
        x = Due.town("house a abcdefgh; thieves 23; seed 10;");
        Due.due("by the seed", x.count(13), 1);
        x.days(1);
        house(x, 0, 5, 0);
        // wear comes first: it takes the one, and thieves find none on day 1
        x = Due.town("house a a; house b b; verse v a 1 1; thieves 100; wears = day; spoils 1;");
        x.set(0);
        x.days(2);
        Due.due("by wear, then thieves", x.count(8), 1);
        house(x, 0, 0, 0, 1, 0, 0);
    }

    private static void promise15Undo() {
        CapitalCase x = Due.town(TOWN + "thieves 100; spoils 2;");
        Due.due("none", x.undo(), false);
        x.set(0);
        x.days(3);
        x.clear(0);
        x.lend(1, 0, 1);
        x.giveBack(0, 1, 1);
        Due.due("five", x.count(10), 5);
        Due.due("undo giveBack", x.undo(), true);
        house(x, 0, 1, 1, 0, 1, 1, 0, 1);
        Due.due("undo lend", x.undo(), true);
        house(x, 0, 1, 0, 0, 0, 1, 0, 0);
        Due.due("undo clear", x.undo(), true);
        Due.due("DONE and SET", x.verse(0, 3), 2);
        Due.due("from", x.from(0, 2), 0);
        Due.due("undo days", x.undo(), true);
        Due.due("day", x.count(2), 0);
        Due.due("paid", x.count(3), 0);
        Due.due("gone", x.count(8), 0);
        Due.due("DONE", x.count(5), 0);
        house(x, 0, 0, 2, 2, 0, 0);
        Due.due("undo set", x.undo(), true);
        house(x, 0, 0, 2, 0, 2, 0);
        Due.due("none left", x.undo(), false);
        for (int i = 0; i < 35; i++) {
            x.days(1);
        }
        Due.due("the last 30", x.count(10), 30);
        for (int i = 0; i < 30; i++) {
            Due.due("undo", x.undo(), true);
        }
        Due.due("not the 31st", x.undo(), false);
        Due.due("day", x.count(2), 5);
        x.set(9);
        x.clear(0);
        x.lend(0, 0, 0);
        x.giveBack(0, 1, 0);
        x.days(0);
        x.days(61);
        x.tell(0, 0, true);
        x.hold(0);
        Due.due("no things done", x.undo(), false);
        Due.due("told stays", x.count(11), 1);
    }

    private static void promise16From() {
        CapitalCase x = Due.town(TOWN);
        int[] would = {0, 0, 0};
        for (int i = 0; i < 3; i++) {
            Due.due("would be", x.from(0, i), would[i]);
        }
        Due.due("would be", x.from(1, 1), 1);
        Due.due("nothing happens", x.count(7), 0);
        x.set(1);
        Due.due("can't be", x.from(2, 0), -2);
        Due.due("is", x.from(1, 0), 0);
        x.lend(0, 1, 0);
        Due.due("would be", x.from(0, 1), 1);
        x.days(1);
        Due.due("is", x.from(1, 1), 1);
        x.clear(1);
        Due.due("DONE and CLEARED", x.from(1, 0), -3);
        Due.due("NONE first", x.from(1, 2), -1);
        Due.due("NONE first", x.from(2, 2), -1);
        Due.due("no such i", x.from(0, -1), -1);
        Due.due("no such i", x.from(0, MAX), -1);
        Due.due("no such verse", x.from(-1, 0), -1);
        Due.due("no such verse", x.from(3, 0), -1);
        Due.due("no such verse", x.from(MIN, 0), -1);
    }
}
