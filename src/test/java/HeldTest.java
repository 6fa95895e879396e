/** Promises 30 to 36: what is told of a print, what slots hold, and what is counted. */
public final class HeldTest {
    private static final int MIN = Integer.MIN_VALUE;
    private static final int MAX = Integer.MAX_VALUE;

    public static void main(String[] args) {
        promise30Tell();
        promise31Forget();
        promise32Whose();
        promise33Ask();
        promise34Hold();
        promise35Restore();
        promise36Count();
        promise36CountByDays();
        Due.end();
    }

    /** The houses' a is worn by 1, 3, 5 a day, the b of the second one by 3, behind n days. */
    private static CapitalCase worn(int n) {
        CapitalCase x = Due.town("house a a; house b ab; house c a; verse v aaa 1 1; verse w b 1 1; wears = which * 2 + 1; spoils 99;");
        x.set(0);
        x.set(1);
        x.days(n);
        return x;
    }

    private static void promise30Tell() {
        CapitalCase x = worn(1);
        for (int i = 0; i < 20; i++) {
            Due.due("tell", x.tell(i % 8, i * 50, i % 2 == 0), i);
        }
        Due.due("20 are there", x.tell(0, 0, true), -1);
        Due.due("20", x.count(11), 20);
        x.forget();
        for (int no : new int[] {-1, 8, MIN, MAX}) {
            Due.due("no such letter", x.tell(no, 0, true), -1);
        }
        for (int no : new int[] {-1, 1000, MIN, MAX}) {
            Due.due("no such w", x.tell(0, no, true), -1);
        }
        Due.due("none is told", x.count(11), 0);
        Due.due("999", x.tell(7, 999, false), 0);
        Due.due("0", x.tell(0, 0, true), 1);
        Due.due("all fit", x.whose(2, 1), 7);
    }

    private static void promise31Forget() {
        CapitalCase x = worn(1);
        Due.due("none", x.forget(), 0);
        x.tell(0, 99, true);
        x.tell(0, 99, true);
        Due.due("two", x.forget(), 2);
        Due.due("none", x.forget(), 0);
        Due.due("no k is left", x.whose(1, 0), -1);
        Due.due("numbers begin anew", x.tell(0, 1, true), 0);
        Due.due("by the new one", x.whose(1, 0), 3);
    }

    private static void promise32Whose() {
        CapitalCase x = worn(1);
        x.tell(0, 3, true);
        x.tell(0, 5, false);
        x.tell(1, 1, false);
        int[] which = {7, 6, 2, 0};
        for (int k = 0; k <= 3; k++) {
            Due.due("whose(" + k + ", 0)", x.whose(k, 0), Integer.bitCount(which[k]));
            Due.due("whose(" + k + ", 1)", x.whose(k, 1), which[k]);
        }
        x.days(1);
        Due.due("as all is now", x.whose(1, 1), 6);
        Due.due("as all is now", x.whose(2, 1), 0);
        x.undo();
        Due.due("as all is now", x.whose(2, 1), 2);
        for (int no : new int[] {-1, 4, 20, MIN, MAX}) {
            Due.due("no such k", x.whose(no, 0), -1);
        }
        for (int no : new int[] {-1, 2, MIN, MAX}) {
            Due.due("no such what", x.whose(0, no), -1);
        }
    }

    private static void promise33Ask() {
        CapitalCase x = worn(1);
        Due.due("a leaves two, all else three", x.ask(0, 5), 0);
        Due.due("all leave three", x.ask(0, 0), 0);
        Due.due("all leave three", x.ask(0, 999), 0);
        Due.due("b leaves two, a three", x.ask(0, 1), 1);
        Due.due("of alike ones the first", x.ask(0, 3), 0);
        x.tell(0, 3, true);
        Due.due("of the two by a", x.ask(1, 4), 0);
        Due.due("of the two by b", x.ask(1, 2), 1);
        Due.due("k counts", x.ask(0, 4), 0);
        x.tell(0, 9, true);
        Due.due("none is left", x.ask(2, 1), -2);
        for (int no : new int[] {-1, 3, MIN, MAX}) {
            Due.due("no such k", x.ask(no, 1), -1);
        }
        for (int no : new int[] {-1, 1000, MIN, MAX}) {
            Due.due("no such w", x.ask(0, no), -1);
            Due.due("no such w, none left", x.ask(2, no), -1);
        }
    }

    private static void promise34Hold() {
        CapitalCase x = worn(1);
        for (int no : new int[] {-1, 3, MIN, MAX}) {
            Due.due("no such slot", x.hold(no), false);
        }
        Due.due("none hold", x.count(12), 0);
        Due.due("hold", x.hold(2), true);
        Due.due("one holds", x.count(12), 1);
        x.days(1);
        Due.due("hold anew", x.hold(2), true);
        Due.due("one holds", x.count(12), 1);
        Due.due("hold", x.hold(0) && x.hold(1), true);
        Due.due("three hold", x.count(12), 3);
        Due.due("no thing done", x.count(10), 4);
        x.days(5);
        x.restore(2);
        Due.due("the later one", x.count(2), 2);
    }

    private static void promise35Restore() {
        CapitalCase x = worn(1);
        Due.due("nothing is held", x.restore(0), false);
        for (int no : new int[] {-1, 3, MIN, MAX}) {
            Due.due("no such slot", x.restore(no), false);
        }
        Due.due("nothing happens", x.count(10), 3);
        x.hold(0);
        x.clear(0);
        x.lend(2, 1, 0);
        x.days(7);
        x.tell(0, 5, true);
        Due.feed(x, "house");
        Due.due("restore", x.restore(0), true);
        Due.due("day", x.count(2), 1);
        Due.due("SET", x.count(4), 3);
        Due.due("DONE", x.count(5), 3);
        Due.due("paid", x.count(3), 2);
        Due.due("lent", x.count(15), 0);
        Due.due("from", x.from(0, 2), 2);
        Due.due("worn", x.house(2, 0, 3), 5);
        Due.due("the tape stays", x.count(9), 5);
        Due.due("told stays", x.count(11), 1);
        Due.due("nothing can be undone", x.undo(), false);
        Due.due("nothing can be undone", x.count(10), 0);
        x.days(3);
        Due.due("it stays there", x.restore(0), true);
        Due.due("day", x.count(2), 1);
        Due.due("another holds nothing", x.restore(1), false);
        x.clear(0);
        Due.due("undone as far as that", x.undo(), true);
        Due.due("no further", x.undo(), false);
        Due.due("as it was held", x.count(4), 3);
    }

    private static void count(CapitalCase x, int... due) {
        for (int what = 0; what < due.length; what++) {
            Due.due("count(" + what + ")", x.count(what), due[what]);
        }
    }

    private static void promise36Count() {
        CapitalCase x = Due.town("house a aab; house b abc; verse v aab 5 1; verse w c 7 1; verse u cc 1 1; verse t abb 2 1;");
        count(x, 2, 4, 0, 0, 0, 0, 6, 0, 0, 0, 0, 0, 0, 0, 11, 0);
        x.set(0);
        x.lend(1, 0, 2);
        x.hold(1);
        x.tell(1, 1, true);
        Due.feed(x, "abc");
        count(x, 2, 4, 0, 0, 1, 0, 6, 3, 0, 3, 2, 1, 1, 0, 2, 1);
        x.days(3);
        x.set(1);
        count(x, 2, 4, 3, 5, 3, 1, 6, 4, 0, 3, 4, 1, 1, 0, 0, 1);
        for (int no : new int[] {-1, 16, MIN, MAX}) {
            Due.due("no such what", x.count(no), -1);
        }
    }

    private static void promise36CountByDays() {
        CapitalCase x = Due.town("house a aab; verse v ab 5 1; spoils 2; thieves 100; seed 4;");
        Due.due("thieves", x.count(13), 1);
        x.set(0);
        // seed 4 takes an a on day 0, wear an a and the b on day 1
        x.days(1);
        Due.due("pieces", x.count(6), 2);
        x.days(1);
        Due.due("pieces", x.count(6), 0);
        Due.due("in use", x.count(7), 2);
        Due.due("gone", x.count(8), 3);
        x.clear(0);
        Due.due("in use", x.count(7), 0);
        Due.due("DONE", x.count(5), 1);
        Due.due("SET", x.count(4), 0);
        Due.due("a DONE one can't be", x.count(14), 0);
    }
}
