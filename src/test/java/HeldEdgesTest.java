/** The boundary cases of "Terms", IV, and of promises 30 to 36: a test for each sentence that names one. */
public final class HeldEdgesTest {
    private static final int MIN = Integer.MIN_VALUE;
    private static final int MAX = Integer.MAX_VALUE;
    /** Behind a day the houses' a is worn by 1, 3, 5, the b of the second one by 3. */
    private static final String TOWN = "house a a; house b ab; house c a; verse v aaa 1 1; verse w b 1 1; wears = which * 2 + 1; spoils 99;";

    public static void main(String[] args) {
        wornByOrMore();
        asAllIsNow();
        told20();
        tellRefused();
        knownByK();
        forgetAll();
        whoseNone();
        askAtWorst();
        askEdges();
        holdAll();
        holdSlots();
        restoreStays();
        restoreRefused();
        restoreUndo();
        countNone();
        countEach();
        countFull();
        Due.end();
    }

    private static CapitalCase worn(int days) {
        CapitalCase x = Due.town(TOWN);
        x.set(0);
        x.set(1);
        x.days(days);
        return x;
    }

    private static void wornByOrMore() {
        Due.of("a LETTER was worn by w (0 .. 999) or more, or was not");
        int[] ws = {0, 1, 2, 3, 4, 5, 6, 999};
        int[] so = {7, 7, 6, 6, 4, 4, 0, 0};
        for (int i = 0; i < ws.length; i++) {
            CapitalCase x = worn(1);
            Due.due("tell", x.tell(0, ws[i], true), 0);
            Due.due("worn by " + ws[i] + " or more", x.whose(1, 1), so[i]);
            x.forget();
            Due.due("tell", x.tell(0, ws[i], false), 0);
            Due.due("not worn by " + ws[i], x.whose(1, 1), 7 & ~so[i]);
        }
        CapitalCase x = worn(1);
        x.tell(7, 0, true);
        Due.due("a letter that none has", x.whose(1, 1), 7);
        x.tell(7, 1, true);
        Due.due("a letter that none has", x.whose(2, 1), 0);
    }

    private static void asAllIsNow() {
        Due.of("or was not, as all is now");
        CapitalCase x = worn(1);
        x.tell(0, 5, true);
        Due.due("now", x.whose(1, 1), 4);
        x.days(1);
        Due.due("a day later", x.whose(1, 1), 6);
        x.undo();
        Due.due("undone", x.whose(1, 1), 4);
        x.days(4);
        Due.due("four days later", x.whose(1, 1), 7);
    }

    private static void told20() {
        Due.of("20 at most, numbered from 0 on");
        CapitalCase x = worn(1);
        for (int i = 0; i < 20; i++) {
            Due.due("told", x.count(11), i);
            Due.due("tell", x.tell(0, 3, true), i);
        }
        Due.due("a 21st", x.tell(0, 6, true), -1);
        Due.due("20", x.count(11), 20);
        Due.due("by 20", x.whose(20, 1), 6);
        Due.due("by 21", x.whose(21, 1), -1);
        Due.due("ask by 20", x.ask(20, 5), 0);
        Due.due("ask by 21", x.ask(21, 5), -1);
        Due.due("forget", x.forget(), 20);
        Due.due("from 0 on", x.tell(0, 6, true), 0);
    }

    private static void tellRefused() {
        Due.of("It is TOLD: its number; NONE, and nothing happens: 20 are there, no such ones.");
        for (int no : new int[] {MIN, -1, 8, MAX}) {
            Seen.nothingHappens(TOWN, x -> x.tell(0, 1, true), x -> Due.due("no such letter", x.tell(no, 1, true), -1));
        }
        for (int no : new int[] {MIN, -1, 1000, MAX}) {
            Seen.nothingHappens(TOWN, x -> x.tell(0, 1, true), x -> Due.due("no such w", x.tell(0, no, false), -1));
        }
        Seen.nothingHappens(TOWN, x -> {
            for (int i = 0; i < 20; i++) {
                x.tell(i % 8, i, i < 2);
            }
        }, x -> Due.due("20 are there", x.tell(0, 0, false), -1));
        CapitalCase x = worn(1);
        Due.due("the last letter", x.tell(7, 0, true), 0);
        Due.due("the most wear", x.tell(0, 999, false), 1);
        Due.due("without houses", new CapitalCase().tell(0, 0, true), 0);
    }

    private static void knownByK() {
        Due.of("KNOWN by k: the first k. WHOSE: HOUSES of which all that is KNOWN is so: how many; which (bits).");
        CapitalCase x = worn(1);
        x.tell(0, 2, true);
        x.tell(0, 4, false);
        x.tell(1, 3, false);
        int[] left = {7, 6, 2, 0};
        for (int k = 0; k <= 3; k++) {
            Due.due("whose(" + k + ", 1)", x.whose(k, 1), left[k]);
            Due.due("whose(" + k + ", 0)", x.whose(k, 0), Integer.bitCount(left[k]));
        }
    }

    private static void forgetAll() {
        Due.of("All that was TOLD is forgotten: how many there were.");
        CapitalCase x = new CapitalCase();
        Due.due("none", x.forget(), 0);
        x.tell(0, 1, true);
        Due.due("one", x.forget(), 1);
        Due.due("none", x.forget(), 0);
        Due.due("none is KNOWN", x.whose(1, 0), -1);
        Due.due("none is TOLD", x.count(11), 0);
    }

    private static void whoseNone() {
        Due.of("what 0 how many, 1 which (bits); NONE: no such ones");
        CapitalCase x = worn(1);
        x.tell(0, 2, true);
        Due.due("k 0", x.whose(0, 1), 7);
        Due.due("k 1", x.whose(1, 1), 6);
        for (int no : new int[] {MIN, -1, 2, 20, 21, MAX}) {
            Due.due("whose(" + no + ", 0)", x.whose(no, 0), -1);
        }
        for (int no : new int[] {MIN, -1, 2, MAX}) {
            Due.due("whose(0, " + no + ")", x.whose(0, no), -1);
        }
        Due.due("without houses", new CapitalCase().whose(0, 0), 0);
        Due.due("without houses", new CapitalCase().whose(0, 1), 0);
        Due.due("five houses", Due.town("house a a; house b a; house c a; house d a; house e a;").whose(0, 1), 31);
    }

    private static void askAtWorst() {
        Due.of("fewest are left, at worst; of alike ones the first");
        CapitalCase x = worn(1);
        Due.due("a leaves two, b two: the first", x.ask(0, 2), 0);
        Due.due("a leaves three, b two", x.ask(0, 1), 1);
        Due.due("a leaves two, b three", x.ask(0, 4), 0);
        Due.due("all leave three", x.ask(0, 0), 0);
        Due.due("all leave three", x.ask(0, 999), 0);
        x.tell(0, 5, true);
        Due.due("one is left", x.ask(1, 3), 0);
        Due.due("all five are left", Due.town("house a a; house b a; house c a; house d a; house e a;").ask(0, 1), 0);
        x = Due.town("house a a; house b a; house c a; house d a; house e h; verse v h 1 1;");
        x.set(0);
        x.days(1);
        Due.due("four are left", x.ask(0, 1), 7);
        // the last letter alone tells the two apart
        x = Due.town("house a h; house b a; verse v h 1 1;");
        x.set(0);
        x.days(1);
        Due.due("the last letter", x.ask(0, 1), 7);
        Due.due("not by 2", x.ask(0, 2), 0);
    }

    private static void askEdges() {
        Due.of("ASK (w 0 .. 999), as KNOWN by k; -2: none is left; NONE: no such ones.");
        CapitalCase x = worn(1);
        x.tell(0, 6, true);
        Due.due("none is left", x.ask(1, 1), -2);
        Due.due("w 0", x.ask(0, 0), 0);
        Due.due("w 999", x.ask(0, 999), 0);
        for (int no : new int[] {MIN, -1, 1000, MAX}) {
            Due.due("no such w", x.ask(0, no), -1);
            Due.due("no such w, none is left", x.ask(1, no), -1);
        }
        for (int no : new int[] {MIN, -1, 2, 20, MAX}) {
            Due.due("no such k", x.ask(no, 1), -1);
        }
        Due.due("without houses", new CapitalCase().ask(0, 1), -2);
    }

    private static void holdAll() {
        Due.of("All that goes on (not what is TOLD, nor the tape) is held in a SLOT");
        String text = "house a aab; house b ab; verse v ab 10 3; verse w aa 7 0; spoils 3; thieves 50; seed 8;";
        CapitalCase x = Due.town(text);
        x.set(0);
        x.days(2);
        x.lend(1, 0, 0);
        x.set(1);
        x.hold(1);
        String heldState = Seen.of(x).replaceAll("; whose.*", "").replaceFirst("^((\\d+,){9})\\d+,\\d+,\\d+,", "$1");
        x.clear(0);
        x.clear(1);
        x.days(60);
        x.giveBack(0, 1, 0);
        x.tell(0, 1, true);
        x.tell(0, 2, true);
        Due.feed(x, "house");
        x.restore(1);
        String now = Seen.of(x).replaceAll("; whose.*", "").replaceFirst("^((\\d+,){9})\\d+,\\d+,\\d+,", "$1");
        Due.due("all that goes on: " + now + " was " + heldState, now.equals(heldState), true);
        holdLentAndFrom();
        Due.due("what is TOLD stays", x.count(11), 2);
        Due.due("the tape stays", x.count(9), 5);
    }

    private static void holdLentAndFrom() {
        CapitalCase x = Due.town("house a a; house b aa; verse v a 1 1;");
        x.lend(0, 1, 0);
        x.set(0);
        x.hold(0);
        x.clear(0);
        x.giveBack(1, 0, 0);
        x.set(0);
        x.hold(1);
        Due.due("from the first", x.from(0, 0), 0);
        Due.due("none is lent", x.count(15), 0);
        x.restore(0);
        Due.due("from the second", x.from(0, 0), 1);
        Due.due("lent", x.house(0, 0, 4), 1);
        Due.due("lent to it", x.house(1, 0, 5), 1);
        x.restore(1);
        Due.due("from the first", x.from(0, 0), 0);
        Due.due("none is lent", x.house(1, 0, 5), 0);
    }

    private static void holdSlots() {
        Due.of("is held in a SLOT (0 .. 2): true; false: no such one.");
        CapitalCase x = new CapitalCase();
        for (int no : new int[] {MIN, -1, 3, MAX}) {
            Due.due("hold(" + no + ")", x.hold(no), false);
            Due.due("none", x.count(12), 0);
        }
        for (int slot = 2; slot >= 0; slot--) {
            x.days(1);
            Due.due("hold(" + slot + ")", x.hold(slot), true);
            Due.due("SLOTS that hold", x.count(12), 3 - slot);
        }
        for (int slot = 0; slot <= 2; slot++) {
            x.restore(slot);
            Due.due("each its own", x.count(2), 3 - slot);
        }
        x.days(5);
        Due.due("held anew", x.hold(0), true);
        Due.due("three", x.count(12), 3);
        x.days(5);
        x.restore(0);
        Due.due("the later one", x.count(2), 6);
        Due.due("no thing done", Due.town("").hold(0), true);
        Seen.nothingHappens(TOWN, a -> a.set(0), a -> Due.due("hold(3)", a.hold(3), false));
    }

    private static void restoreStays() {
        Due.of("It goes on from what a SLOT holds (that stays there; nothing can be undone then)");
        CapitalCase x = worn(1);
        x.hold(0);
        for (int i = 0; i < 3; i++) {
            x.clear(0);
            x.days(7);
            Due.due("restore", x.restore(0), true);
            Due.due("day", x.count(2), 1);
            Due.due("SET", x.count(4), 3);
            Due.due("nothing can be undone", x.count(10), 0);
            Due.due("undo", x.undo(), false);
            Due.due("still held", x.count(12), 1);
        }
    }

    private static void restoreRefused() {
        Due.of("false, and nothing happens: no such one, nothing is held");
        Seen.Calls ahead = x -> {
            x.set(0);
            x.days(1);
            x.hold(1);
            x.days(1);
        };
        for (int no : new int[] {MIN, -1, 3, MAX, 0, 2}) {
            Seen.nothingHappens(TOWN, ahead, x -> Due.due("restore(" + no + ")", x.restore(no), false));
        }
        CapitalCase x = Due.town(TOWN);
        x.hold(0);
        x.read();
        Due.due("nothing is held behind a new text", x.restore(0), false);
    }

    private static void restoreUndo() {
        Due.of("nothing can be undone then");
        CapitalCase x = new CapitalCase();
        x.hold(2);
        for (int i = 0; i < 35; i++) {
            x.days(1);
        }
        x.restore(2);
        Due.due("none", x.undo(), false);
        for (int i = 0; i < 31; i++) {
            x.days(2);
        }
        Due.due("30 anew", x.count(10), 30);
        for (int i = 0; i < 30; i++) {
            Due.due("undo", x.undo(), true);
        }
        Due.due("as far as that", x.count(2), 2);
        Due.due("no further", x.undo(), false);
    }

    private static void countNone() {
        Due.of("15 PIECES that are lent. NONE for others.");
        for (int no : new int[] {MIN, -1, 16, 17, MAX}) {
            Due.due("count(" + no + ")", worn(1).count(no), -1);
            Due.due("count(" + no + ") of a new object", new CapitalCase().count(no), -1);
        }
        Due.due("15", worn(1).count(15), 0);
        Due.due("0", worn(1).count(0), 3);
    }

    private static void countEach() {
        Due.of("13: 1 THIEVES this day, else 0, 14 VERSES that can be SET now, each by itself (bits)");
        CapitalCase x = Due.town("house a ab; verse p a 1 1; verse q a 1 1; verse r ab 1 1; verse s c 1 1; verse t bb 1 1; thieves 51;");
        Due.due("50 is less than 51", x.count(13), 1);
        Due.due("each by itself", x.count(14), 7);
        x.set(0);
        Due.due("not the SET one, no second a", x.count(14), 0);
        x.clear(0);
        x.days(1);
        Due.due("1 is less than 51, the next day", x.count(13), 1);
        x.undo();
        x.set(1);
        x.days(1);
        x.clear(1);
        Due.due("not the DONE one", x.count(14), 5);
        x = Due.town("house a abcdefgh; verse p a 1 1; verse q b 1 1; verse r c 1 1; verse s d 1 1; verse t e 1 1; verse u f 1 1; verse v h 1 1;");
        Due.due("seven", x.count(14), 127);
        Due.due("no LEAVE", Due.town("house a a; verse p a 1 1; leave = 0;").count(14), 0);
        Due.due("50 is not less than 50", Due.town("thieves 50;").count(13), 0);
    }

    private static void countFull() {
        Due.of("10 things that can be undone, 11 TOLD ones, 12 SLOTS that hold something");
        CapitalCase x = Due.town("house a aaaaaaaa; house b bbbbbbbb; house c cccccccc; house d dddddddd; house e eeeeeeee;"
                + "verse p a 99 1; verse q a 99 1; verse r a 99 1; verse s a 99 1; verse t a 99 1; verse u a 99 1; verse v a 99 1;");
        for (int verse = 0; verse < 7; verse++) {
            x.set(verse);
        }
        Due.due("SET", x.count(4), 127);
        x.days(1);
        for (int i = 0; i < 24; i++) {
            x.lend(1 + i / 8, 0, 1 + i / 8);
        }
        int[] due = {5, 7, 1, 693, 127, 127, 40, 7, 0, 0, 30, 0, 0, 0, 0, 24};
        for (int what = 0; what <= 15; what++) {
            Due.due("count(" + what + ")", x.count(what), due[what]);
        }
        for (int i = 0; i < 25; i++) {
            x.tell(0, 7, true);
            x.hold(i % 4);
        }
        Due.due("TOLD", x.count(11), 20);
        Due.due("SLOTS", x.count(12), 3);
        Due.due("bytes", x.feed(0, 0, 0, 0, 0), x.count(9));
    }
}
