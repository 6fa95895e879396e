/** Promises 17 to 29: what would be, while nothing happens. */
public final class WouldBeTest {
    private static final int MIN = Integer.MIN_VALUE;
    private static final int MAX = Integer.MAX_VALUE;
    private static final int[] NO_WHAT = {-1, 2, MIN, MAX};

    public static void main(String[] args) {
        promise17Best();
        promise18Worth();
        promise19Pillar();
        promise20TwoDays();
        promise20TwoDaysByDay();
        promise21Loans();
        promise22Bargains();
        promise23Strike();
        promise24Clash();
        promise25Late();
        promise26WornOut();
        promise27Then();
        promise28PaidIn();
        promise29Year();
        nothingHappens();
        Due.end();
    }

    private static void best(CapitalCase x, int much, int which) {
        Due.due("best(0)", x.best(0), much);
        Due.due("best(1)", x.best(1), which);
    }

    private static void promise17Best() {
        best(Due.town("house a ab; verse v a 5 1; verse w a 5 1; verse u b 0 1;"), 5, 1);
        best(Due.town("house a ab; verse p a 3 9; verse q b 3 9; verse r ab 6 9;"), 6, 3);
        best(Due.town("house a ab; verse r ab 6 9; verse p a 3 9; verse q b 3 9;"), 6, 1);
        best(Due.town("house a ab; verse r ab 6 9; verse p a 3 9; verse q b 4 9;"), 7, 6);
        best(Due.town("house a ab; verse v c 6 9;"), 0, 0);
        best(Due.town("verse v c 6 9;"), 0, 0);
        best(Due.town("house a abcdefg; verse va a 1 1;" + "verse vb b 2 1; verse vc c 3 1; verse vd d 4 1;"
                + "verse ve e 5 1; verse vf f 6 1; verse vg g 7 1;"), 28, 127);
        // by number: the first takes what the second alone could use
        best(Due.town("house a a; house b a; verse p a 1 9; verse q a 5 9; leave = if which < 1 then 2 - value else 1; rank = which;"),
                5, 2);
        best(Due.town("house a a; house b a; verse q a 5 9; verse p a 1 9; leave = if which < 1 then 2 - value else 1; rank = which;"),
                6, 3);
        CapitalCase x = Due.town("house a aab; verse v a 5 1; verse w ab 4 1; verse u aa 8 1; pays = value - day * due * 3;");
        best(x, 9, 3);
        x.days(1);
        best(x, 5, 4);
        x.days(1);
        best(x, 2, 4);
        x.days(1);
        best(x, 0, 0);
        x = Due.town("house a aab; verse v a 5 1; verse w ab 4 1; verse u aa 8 1;");
        x.set(1);
        best(x, 5, 1);
        x.days(1);
        best(x, 5, 1);
        x.clear(1);
        best(x, 8, 4);
        for (int no : NO_WHAT) {
            Due.due("no such what", x.best(no), -1);
        }
    }

    private static void promise18Worth() {
        CapitalCase x = Due.town("house a ab; verse v a 5 1; verse w a 3 1; verse u bc 9 1;");
        Due.due("another a", x.worth(0, 0), 3);
        Due.due("another b", x.worth(0, 1), 0);
        Due.due("a c", x.worth(0, 2), 9);
        Due.due("nothing happens", x.house(0, 2, 0), 0);
        for (int no : new int[] {-1, 1, MIN, MAX}) {
            Due.due("no such house", x.worth(no, 0), -1);
        }
        Due.due("no such letter", x.worth(0, 8), -1);
        Due.due("no such letter", x.worth(0, -1), -1);
        // laws see it, too
        x = Due.town("house a a; verse v a 5 1; leave = 2 - has;");
        Due.due("leave is lost by it", x.worth(0, 0), -5);
        x = Due.town("house a a; verse v a 5 1; leave = has - 1;");
        Due.due("leave is won by it", x.worth(0, 0), 5);
        // one more first stands in for what is gone though in use
        x = Due.town("house a a; verse v a 5 1; verse w a 3 1; spoils 1;");
        x.set(0);
        x.days(1);
        Due.due("one in use that is gone", x.worth(0, 0), 0);
        x.clear(0);
        Due.due("none in use", x.worth(0, 0), 3);
    }

    private static void promise19Pillar() {
        CapitalCase x = Due.town("house a aa; house b ab; house c c; verse v aab 5 1; verse w a 3 1; verse u c 2 1;");
        Due.due("the house", x.pillar(0), 0);
        Due.due("how much then", x.pillar(1), 5);
        x = Due.town("house a a; house b b; verse v a 5 1; verse w b 5 1;");
        Due.due("of alike ones the first", x.pillar(0), 0);
        Due.due("how much then", x.pillar(1), 5);
        x = Due.town("house a a; house b b; verse v a 3 1; verse w b 5 1;");
        Due.due("the second", x.pillar(0), 1);
        Due.due("how much then", x.pillar(1), 3);
        x.set(1);
        Due.due("FREE pieces alone", x.pillar(0), 0);
        Due.due("how much then", x.pillar(1), 0);
        for (int no : NO_WHAT) {
            Due.due("no such what", x.pillar(no), -1);
        }
        x = Due.town("verse v a 1 1;");
        Due.due("no houses", x.pillar(0), -2);
        Due.due("no houses", x.pillar(1), -2);
        Due.due("no such what", x.pillar(2), -1);
    }

    private static void twoDays(CapitalCase x, int much, int first) {
        Due.due("twoDays(0)", x.twoDays(0), much);
        Due.due("twoDays(1)", x.twoDays(1), first);
    }

    private static void promise20TwoDays() {
        twoDays(Due.town("house a ab; verse v a 5 1; verse w ab 7 1; spoils 1;"), 7, 0);
        twoDays(Due.town("house a ab; verse v a 5 1; verse w ab 7 1; spoils 2;"), 12, 1);
        twoDays(Due.town("house a ab; verse v a 5 1; verse w ab 7 1; verse u a 6 1;"), 13, 2);
        CapitalCase x = Due.town("house a ab; verse v a 5 1; verse w ab 7 1; verse u b 1 1;");
        x.set(0);
        twoDays(x, 6, 0);
        x.days(1);
        twoDays(x, 1, 0);
        x.clear(0);
        twoDays(x, 8, 2);
        for (int no : NO_WHAT) {
            Due.due("no such what", x.twoDays(no), -1);
        }
        // thieves would take all
        twoDays(Due.town("house a h; verse v h 5 1; thieves 100; pays = value + day;"), 6, 0);
    }

    private static void promise20TwoDaysByDay() {
        twoDays(Due.town("house a ab; verse v a 5 1; verse w b 7 1; pays = value - day;"), 12, 3);
        twoDays(Due.town("house a ab; verse v a 5 1; verse w b 7 1; pays = value + day;"), 14, 0);
        twoDays(Due.town("house a ab; verse v a 5 1; verse w b 7 1; pays = value + day * (due * 2 - 1);"), 14, 0);
        twoDays(Due.town("house a ab; verse v a 5 0; verse w b 7 1; pays = value + day * (due * 2 - 1);"), 13, 1);
        twoDays(Due.town("house a a; verse v a 5 4; verse w a 7 0; pays = value + day * due;"), 16, 2);
        // by then leave is given no more
        twoDays(Due.town("house a ab; verse v a 5 1; verse w b 7 1; leave = 1 - day;"), 12, 3);
        // what is worn gives no leave: the a that was used on the first day
        twoDays(Due.town("house a ab; verse v a 5 1; verse w ab 7 1; leave = 1 - worn;"), 7, 0);
        // those SET now are worn, too, and paid by the first day
        CapitalCase x = Due.town("house a aa; verse v a 5 1; verse w a 7 1; leave = 1 - worn; pays = value + day;");
        x.set(0);
        twoDays(x, 5 + 7, 2);
        x = Due.town("house a ab; house b a; verse v a 5 1; verse w a 7 1; verse u ab 1 1; spoils 1;");
        // each a can be used on one of the days alone
        twoDays(x, 12, 0);
        x = Due.town("house a ab; house b a; verse v a 5 1; verse w a 7 1; verse u b 1 1; verse t b 1 1; spoils 1; pays = value - day;");
        twoDays(x, 13, 7);
    }

    private static void promise21Loans() {
        CapitalCase x = Due.town("house a aab; house b ab; house c abbc; verse v aab 1 1; verse w bbbb 1 1; verse u bbbbb 1 1;"
                + "verse t c 1 1; leave = 0;");
        int[][] due = {{0, 3, -2, 1}, {1, 3, -2, 1}, {1, 2, -2, 0}};
        for (int house = 0; house < 3; house++) {
            for (int verse = 0; verse < 4; verse++) {
                Due.due("loans(" + house + ", " + verse + ")", x.loans(house, verse), due[house][verse]);
            }
        }
        for (int no : new int[] {-1, 3, 5, MIN, MAX}) {
            Due.due("no such house", x.loans(no, 0), -1);
        }
        for (int no : new int[] {-1, 4, 7, MIN, MAX}) {
            Due.due("no such verse", x.loans(0, no), -1);
        }
        x = Due.town("house a a; house b aa; verse v a 1 1; verse w aa 1 1; spoils 1;");
        x.set(0);
        Due.due("FREE ones alone", x.loans(0, 0), 1);
        Due.due("FREE ones of others alone", x.loans(1, 1), 0);
        x.days(1);
        // the first house has none, and one in use: one that is lent to it is not FREE yet
        Due.due("in use and gone", x.loans(0, 0), 2);
        x.lend(1, 0, 0);
        Due.due("so it is", x.house(0, 0, 2), 0);
        Due.due("one more", x.loans(0, 0), 1);
        x.clear(0);
        Due.due("cleared", x.loans(0, 0), 0);
    }

    private static void bargains(CapitalCase x, int many, int first) {
        Due.due("bargains(0)", x.bargains(0), many);
        Due.due("bargains(1)", x.bargains(1), first);
    }

    private static void promise22Bargains() {
        bargains(Due.town("house h ac; house i bd; verse v ad 3 9; verse w bc 4 9;"), 2, 101);
        bargains(Due.town("house h ac; house i bd; verse v ad 3 9; verse w bb 4 9;"), 0, -2);
        bargains(Due.town("house h ac; house i bd; verse v ac 3 9; verse w bd 4 9;"), 0, -2);
        bargains(Due.town("house g gh; house h bc; house i ad; verse v cd 3 9; verse w ab 4 9; leave = 0;"), 2, 1213);
        bargains(Due.town("house g e; house h a; house i c; house j b; house k d; verse v a 1 1; verse w b 1 1;"), 0, -2);
        bargains(Due.town("house g h; house h aa; house i bb; verse v ab 1 1;"), 1, 1201);
        CapitalCase x = Due.town("house h ac; house i bd; verse v ad 3 9; verse w bc 4 9; verse u a 1 1;");
        // by its a the first house would win w and lose u
        bargains(x, 1, 123);
        x.set(2);
        // the a is in use, so there is no second one to give: by c for d it would not have v
        bargains(x, 0, -2);
        x.clear(2);
        x.days(1);
        x.set(0);
        bargains(x, 0, -2);
        for (int no : NO_WHAT) {
            Due.due("no such what", x.bargains(no), -1);
        }
        // DONE ones are not looked at
        x = Due.town("house h ac; house i bd; verse v ad 3 9; verse w bc 4 9; verse u a 1 1;");
        x.set(2);
        x.days(1);
        x.clear(2);
        bargains(x, 2, 101);
    }

    private static void promise23Strike() {
        CapitalCase x = Due.town("house a a; verse v ab 1 1; verse w bc 1 1; verse u a 1 1; verse t h 1 1;");
        Due.due("none", x.strike(0), 15);
        Due.due("a", x.strike(1), 10);
        Due.due("b", x.strike(2), 12);
        Due.due("c", x.strike(4), 13);
        Due.due("a, c", x.strike(5), 8);
        Due.due("h", x.strike(128), 7);
        Due.due("all", x.strike(255), 0);
        Due.due("256", x.strike(256), -1);
        Due.due("-1", x.strike(-1), -1);
        Due.due("MIN", x.strike(MIN), -1);
        Due.due("MAX", x.strike(MAX), -1);
        x.set(2);
        Due.due("OPEN ones", x.strike(0), 11);
        x.days(1);
        x.clear(2);
        Due.due("OPEN ones", x.strike(128), 3);
    }

    private static void promise24Clash() {
        CapitalCase x = Due.town("house a ab; house b aab; house c a; verse v aaab 5 5; verse w aaaa 1 1; verse u c 1 1; rank = has;");
        Due.due("two", x.clash(0), 2);
        // two by the second house alone, then the first and the third, then the third alone
        Due.due("one", x.clash(1), 1);
        Due.due("can't be SET", x.clash(2), -2);
        x.set(0);
        Due.due("SET", x.clash(0), -2);
        Due.due("can't be SET now", x.clash(1), -2);
        x.days(1);
        Due.due("DONE", x.clash(0), -2);
        x.clear(0);
        Due.due("DONE and CLEARED", x.clash(0), -2);
        Due.due("no such verse", x.clash(3), -1);
        Due.due("no such verse", x.clash(-1), -1);
        Due.due("no such verse", x.clash(MIN), -1);
        Due.due("no such verse", x.clash(MAX), -1);
        x = Due.town("house a a; house b a; house c a; verse v a 1 1; leave = 1 - which;");
        Due.due("leave by one alone", x.clash(0), 0);
        x = Due.town("house a a; house b a; house c a; verse v aaa 1 1;");
        Due.due("three, two, one", x.clash(0), 2);
    }

    private static void promise25Late() {
        CapitalCase x = Due.town("house a a; verse v a 1 0; verse w a 1 1; verse u a 1 2; verse t a 1 99;");
        int[] late = {0, 1, 3, 7};
        for (int day = 0; day < 4; day++) {
            Due.due("late on day " + day, x.late(), late[day]);
            x.days(1);
        }
        x.set(1);
        Due.due("SET", x.late(), 5);
        x.clear(1);
        Due.due("OPEN", x.late(), 7);
        x.set(0);
        x.days(1);
        x.clear(0);
        Due.due("DONE", x.late(), 6);
        x.days(60);
        x.days(34);
        Due.due("day 99", x.late(), 6);
        x.days(1);
        Due.due("day 100", x.late(), 14);
    }

    private static int wornOut(String laws) {
        CapitalCase x = Due.town("house a aab; verse v aa 1 1;" + laws);
        x.set(0);
        return x.wornOut(0, 0);
    }

    private static void promise26WornOut() {
        Due.due("two a day", wornOut("spoils 99;"), 50);
        Due.due("eighteen a day", wornOut("spoils 99; wears = 9;"), 6);
        Due.due("one day", wornOut("spoils 2;"), 1);
        Due.due("not", wornOut("wears = 0;"), -2);
        Due.due("the 200th", wornOut("wears = if day < 190 then 0 else 1; spoils 20;"), 200);
        Due.due("not by the 200th", wornOut("wears = if day < 190 then 0 else 1; spoils 21;"), -2);
        Due.due("by its wear", wornOut("wears = 1 + worn; spoils 12;"), 3);
        Due.due("no thieves", wornOut("spoils 99; thieves 100;"), 50);
        CapitalCase x = Due.town("house a aab; house b b; verse v aa 1 1; spoils 7;");
        Due.due("nothing is in use", x.wornOut(0, 0), -2);
        x.set(0);
        Due.due("four", x.wornOut(0, 0), 4);
        x.days(1);
        Due.due("three more", x.wornOut(0, 0), 3);
        Due.due("not in use", x.wornOut(0, 1), -2);
        Due.due("not its letter", x.wornOut(1, 0), -2);
        x.days(7);
        Due.due("all gone", x.house(0, 0, 0), 0);
        Due.due("none can go", x.wornOut(0, 0), -2);
        Due.due("nothing happens", x.count(2), 8);
        for (int no : new int[] {-1, 2, MIN, MAX}) {
            Due.due("no such house", x.wornOut(no, 0), -1);
        }
        Due.due("no such letter", x.wornOut(0, 8), -1);
        Due.due("no such letter", x.wornOut(0, -1), -1);
    }

    /** Thieves by seed 0 take h a f c c h a b f c. */
    private static void promise27Then() {
        CapitalCase x = Due.town("house a aab; house b acc; verse v ab 1 1; spoils 4; thieves 100;");
        x.set(0);
        Due.due("in 0 days", x.then(0, 0, 0, 0), 2);
        Due.due("in 2 days", x.then(0, 0, 2, 0), 1);
        Due.due("in 2 days worn", x.then(0, 0, 2, 1), 2);
        Due.due("in 4 days", x.then(0, 0, 4, 0), 0);
        Due.due("in 4 days worn", x.then(0, 0, 4, 1), 0);
        Due.due("in 5 days worn", x.then(0, 0, 5, 1), 1);
        Due.due("in 3 days", x.then(1, 2, 3, 0), 2);
        Due.due("in 4 days", x.then(1, 2, 4, 0), 1);
        Due.due("in 5 days", x.then(1, 2, 5, 0), 0);
        Due.due("in 6 days", x.then(1, 0, 6, 0), 1);
        Due.due("in 7 days", x.then(1, 0, 7, 0), 0);
        Due.due("in 60 days", x.then(0, 1, 60, 0), 0);
        Due.due("nothing happens", x.count(2), 0);
        Due.due("nothing happens", x.count(6), 6);
        for (int no : new int[] {-1, 2, MIN, MAX}) {
            Due.due("no such house", x.then(no, 0, 1, 0), -1);
            Due.due("no such what", x.then(0, 0, 1, no), -1);
        }
        Due.due("no such letter", x.then(0, 8, 1, 0), -1);
        Due.due("no such letter", x.then(0, -1, 1, 0), -1);
        for (int no : new int[] {-1, 61, MIN, MAX}) {
            Due.due("no such n", x.then(0, 0, no, 0), -1);
        }
    }

    private static void promise28PaidIn() {
        CapitalCase x = Due.town("house a aab; verse v a 5 1; verse w b 7 1; verse u a 9 1; pays = value + day * 2;");
        Due.due("nothing is SET", x.paidIn(60), 0);
        x.set(0);
        x.set(1);
        Due.due("in 0 days", x.paidIn(0), 0);
        Due.due("in 1 day", x.paidIn(1), 12);
        Due.due("in 60 days", x.paidIn(60), 12);
        x.days(1);
        Due.due("once", x.paidIn(3), 0);
        x.set(2);
        Due.due("by the day", x.paidIn(3), 11);
        Due.due("nothing happens", x.count(3), 12);
        for (int no : new int[] {-1, 61, MIN, MAX}) {
            Due.due("no such n", x.paidIn(no), -1);
        }
    }

    /** On day 0 thieves take h f d e a h g g b b f d g h g f h f a d by seeds 0 .. 19; by 9999 to 10002 d h a f. */
    private static void promise29Year() {
        CapitalCase x = Due.town("house a h; house b ab; thieves 100;");
        Due.due("one seed", x.year(0, 7, 1, 1), 0);
        Due.due("two seeds", x.year(0, 7, 1, 2), 1);
        Due.due("five seeds", x.year(0, 7, 1, 5), 4);
        Due.due("six seeds", x.year(0, 7, 1, 6), 4);
        Due.due("20 seeds", x.year(0, 7, 1, 20), 16);
        Due.due("in 0 days", x.year(0, 7, 0, 20), 20);
        Due.due("a b", x.year(1, 1, 1, 20), 18);
        Due.due("it has none", x.year(1, 7, 1, 20), 0);
        Due.due("nothing happens", x.count(6), 3);
        x = Due.town("house a hda; thieves 100; seed 9999;");
        Due.due("the first seed", x.year(0, 3, 1, 1), 0);
        Due.due("beyond 9999", x.year(0, 7, 1, 4), 3);
        Due.due("beyond 9999", x.year(0, 0, 1, 4), 3);
        for (int no : new int[] {-1, 1, MIN, MAX}) {
            Due.due("no such house", x.year(no, 0, 1, 1), -1);
        }
        Due.due("no such letter", x.year(0, 8, 1, 1), -1);
        Due.due("no such letter", x.year(0, -1, 1, 1), -1);
        for (int no : new int[] {-1, 61, MIN, MAX}) {
            Due.due("no such n", x.year(0, 0, no, 1), -1);
        }
        for (int no : new int[] {-1, 0, 21, MIN, MAX}) {
            Due.due("no such s", x.year(0, 0, 1, no), -1);
        }
        // wear goes on in it
        x = Due.town("house a a; verse v a 1 1; spoils 3;");
        x.set(0);
        Due.due("in 2 days", x.year(0, 0, 2, 7), 7);
        Due.due("in 3 days", x.year(0, 0, 3, 7), 0);
    }

    private static void nothingHappens() {
        CapitalCase x = Due.town("house a aab; house b abc; verse v a 5 1; verse w bc 7 1; verse u ab 9 1; thieves 90; spoils 3;");
        x.set(0);
        x.days(1);
        String before = all(x);
        x.from(1, 0);
        x.best(0);
        x.worth(1, 1);
        x.pillar(0);
        x.twoDays(0);
        x.loans(0, 1);
        x.bargains(0);
        x.strike(3);
        x.clash(2);
        x.late();
        x.wornOut(0, 0);
        x.then(0, 0, 60, 0);
        x.paidIn(60);
        x.year(0, 0, 60, 20);
        x.whose(0, 0);
        x.ask(0, 1);
        Due.due("nothing happens: " + before, all(x).equals(before), true);
    }

    private static String all(CapitalCase x) {
        StringBuilder out = new StringBuilder();
        for (int what = 0; what <= 15; what++) {
            out.append(x.count(what)).append(' ');
        }
        for (int i = 0; i < 2 * 8 * 7; i++) {
            out.append(x.house(i / 56, i / 7 % 8, i % 7)).append(' ');
        }
        for (int i = 0; i < 3 * 5; i++) {
            out.append(x.verse(i / 5, i % 5)).append(' ');
        }
        return out.toString();
    }
}
