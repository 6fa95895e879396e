/** Promises 1 to 5: a new object, the tape, texts and their faults. */
public final class TextsTest {
    public static void main(String[] args) {
        promise1NewObject();
        promise2Feed();
        promise3Back();
        promise4ReadSyntax();
        promise4ReadRoom();
        promise4ReadTokens();
        promise4ReadLater();
        promise4ReadChanges();
        promise4ReadDefaults();
        promise5Place();
        Due.end();
    }

    private static void promise1NewObject() {
        Due.due("NONE", CapitalCase.NONE, -1);
        CapitalCase x = new CapitalCase();
        for (int what = 0; what <= 15; what++) {
            Due.due("new: count(" + what + ")", x.count(what), 0);
        }
        Due.due("new: place", x.place(), -1);
        Due.due("new: best", x.best(0), 0);
        Due.due("new: pillar", x.pillar(1), -2);
        Due.due("new: house", x.house(0, 0, 0), -1);
        Due.due("new: undo", x.undo(), false);
        Due.due("new: restore", x.restore(1), false);
        Due.due("new: whose", x.whose(0, 1), 0);
        Due.due("new: hold", x.hold(1), true);
        Due.due("new: days", x.days(60), 60);
        Due.due("new: restore held", x.restore(1), true);
        Due.due("new: day", x.count(2), 0);
    }

    private static void promise2Feed() {
        CapitalCase x = new CapitalCase();
        for (int i = 1; i <= 100; i++) {
            Due.due("feed " + i, x.feed(0x20202020, 0x20202020, 0x20202020, 0x20202020, 0x20202020), 20 * i);
        }
        Due.due("feed 101", x.feed(1, 2, 3, 4, 5), -1);
        Due.due("count(9)", x.count(9), 2000);
        x.back(19);
        Due.due("feed of 1981", x.feed(1, 2, 3, 4, 5), -1);
        Due.due("count(9) of 1981", x.count(9), 1981);
        x.back(1);
        // 0xff is the twentieth byte: the lowest of e
        Due.due("feed of 1980", x.feed(0x20202020, 0x20202020, 0x20202020, 0x20202020, 0x202020ff), 2000);
        Due.due("read of 2000", x.read(), 1);
        Due.due("place of the last byte", x.place(), 1999);
        Due.due("count(9) behind read", x.count(9), 0);
        x.feed(0xff202020, 0x20202020, 0x20202020, 0x20202020, 0x20202020);
        x.read();
        Due.due("place of the first byte", x.place(), 0);
        x.feed(0x20202020, 0x20ff2020, 0x20202020, 0x20202020, 0x20202020);
        x.read();
        Due.due("place of b's second byte", x.place(), 5);
    }

    private static void promise3Back() {
        CapitalCase x = new CapitalCase();
        Due.due("back(0) of none", x.back(0), 0);
        Due.due("back(1) of none", x.back(1), -1);
        x.feed(0x20202020, 0x20202020, 0x20202020, 0x20202020, 0x20202020);
        Due.due("back(-1)", x.back(-1), -1);
        Due.due("back(21)", x.back(21), -1);
        Due.due("back(MIN)", x.back(Integer.MIN_VALUE), -1);
        Due.due("back(MAX)", x.back(Integer.MAX_VALUE), -1);
        Due.due("all stays", x.count(9), 20);
        Due.due("back(13)", x.back(13), 7);
        Due.due("back(7)", x.back(7), 0);
        Due.feed(x, "house a abX");
        x.back(1);
        x.feed(0x3b202020, 0x20202020, 0x20202020, 0x20202020, 0x20202020);
        Due.due("read behind back", x.read(), 0);
        Due.due("the last bytes went", x.count(6), 2);
    }

    /** A text with ^ at the place of its fault. */
    private static void fault(int number, String marked) {
        int place = marked.indexOf('^');
        Due.fault(marked.substring(0, place) + marked.substring(place + 1), number, place);
    }

    private static void fine(String text) {
        Due.fault(text, 0, -1);
    }

    private static void promise4ReadSyntax() {
        String[] wrong = {"^;", "house^", "house a ab^", "house a ab  \n^", "house a ^;", "house ^house ab;", "house a ^has;",
            "house ^abcdefghi ab;", "house a ^abcdefgha;", "verse v ab ^12345 1;", "verse v ab 1^;", "^House a ab;",
            "house a ab;^.", "house a ab;^,", "leave = ^;", "leave = 1 +^;", "leave = 1 ^2;", "leave = (1^;", "leave = 1^);",
            "leave = (^);", "leave = if 1 ^then 2 else 3;", "leave = if 1 < 2 ^else 3;", "leave = if 1 < 2 then 3^;",
            "leave = if 1 < 2 then 3 else^;", "leave = 1 ^< 2;", "leave = 1 ^if 1 < 2 then 3 else 4;", "leave ^1;",
            "rank = ^x;", "wears = ^house;", "pays = ^-1;", "leave = (^if 1 < 2 then 3 else 4);", "spoils ^a;", "spoils 1^",
            "thieves^;", "seed ^= 1;", "house a ab;^\0", "house a ab;^\u00ff", "house a ab;^\u00e1", "house a^\u000bab;",
            "house a ^\fab;", "house ^\002 ab;", "house a ^\002;", "spoils ^\003;", "house a ab;^\001", "house a ab;^\000house b ab;",
            "^\200;", "^\373;", "^houseaab;", "house a^1;", "house a b^1;", "verse v ab ^c 1;", "verse ^5 ab 1 1;", "^value;",
            "^a;", "^1;", "leave = 1; ^= 2;", "leave = 1 * ^* 2;", "leave = if 1 < 2 ^< 3 then 4 else 5;",
            "rank = ^letters;", "rank = value ^due;", "house a ab ^c;", "  ^#",
            "^abcdefghi", "^12345", "house a ^{b};", "rank = if 1 ^abc < 2 then 3 else 4;"};
        for (String text : wrong) {
            fault(1, text);
        }
        String[] right = {"", " ", "\t\n\r ", "house abcdefgh abcdefgh;", "verse v ab 0012 0001;", "\thouse\na\rab\n;",
            "house a ab;verse b ab 1 2;rank=1;", "rank=((1)+(2))*(3)/(4)-(5);", "verse v ab 1 2;", "rank=if1<2then3else4;",
            "house houses ab;", "leave=9999;rank=0000;wears=value+due+day+worn+has+which+letter+long+lent;pays=value;",
            "spoils 20;thieves 0;seed 0;", "verse v a1 2;", "rank=1+2-3*4/5;", "house i ab;"};
        for (String text : right) {
            fine(text);
        }
    }

    private static void promise4ReadRoom() {
        String five = "house a a;house b a;house c a;house d a;house e a;";
        fine(five);
        fault(2, five + " ^house f a;");
        fault(2, five + " ^house ;");
        fault(1, five + " rank ^; house f a;");
        String seven = "verse a a 1 1;verse b a 1 1;verse c a 1 1;verse d a 1 1;verse e a 1 1;verse f a 1 1;verse g a 1 1;";
        fine(seven + five.replace("house ", "house h"));
        fault(2, seven + "^verse h a 1 1;");
        fault(2, seven + "^verse");
        String if1 = "if 1 < 2 then 3 else ";
        fine("rank = " + if1.repeat(4) + "1; leave = " + if1.repeat(4) + "1; rank = " + if1.repeat(4) + "1;");
        fault(2, "rank = " + if1.repeat(4) + "^" + if1 + "1;");
        fault(1, "rank = " + if1.repeat(4) + "1 ^" + if1 + "1;");
        fault(2, "rank = " + if1.repeat(4) + "^if ;");
        fine("rank = ((((((1)))))) + ((((((1))))));");
        fault(2, "rank = ((((((^(1)))))));");
        fault(2, "rank = 1 + (2 * (3 - (4 / (5 + (6 + (7 + ^(8 + 1)))))));");
        fault(1, "rank = ((((((1 ^(1)))))));");
        fault(2, "rank = if ((((((^(1))))))) < 1 then 1 else 1;");
        fine("rank = if ((((((1)))))) < ((((((1)))))) then ((((((1)))))) else ((((((1))))));");
    }

    private static void promise4ReadTokens() {
        String tokens396 = "seed 1;".repeat(132);
        String tokens399 = "seed 1;".repeat(133);
        fine(tokens396 + "rank = 1;");
        fault(2, tokens399 + "seed ^1;");
        fault(1, tokens399 + "seed ^a;");
        fault(1, tokens399 + "seed ^12345;");
        fault(1, tokens399 + "seed ^?;");
        fault(1, tokens399 + "seed  ^");
        fault(1, tokens399 + "^12345");
        fault(2, tokens396 + "rank = 1 + ^1;");
        fault(2, tokens396 + "rank = 1;^rank = 1;");
        fault(1, tokens396 + "rank = 1;^value = 1;");
        fault(2, tokens396 + "rank = ((^1));");
        fault(2, tokens396 + "rank = (1^);");
        // what is wrong behind the 401st is not seen, nor what is WRONG ahead of it
        fault(2, "spoils 0;" + tokens396 + "seed ^1; ? ?");
        // the most steps and the deepest stack that laws can have
        String deep = "1+1*(1+1*(1+1*(1+1*(1+1*(1+1*(1+1*1))))))";
        CapitalCase x = Due.town("house a a; verse v a 1 1; rank = if 0-1 < " + deep + " then " + deep + " else 7;");
        Due.due("deep", x.tells(0, 0, 0, 1), 8);
        x = Due.town("house a a; verse v a 1 1; rank = 1" + "+1".repeat(193) + ";");
        Due.due("long", x.tells(0, 0, 0, 1), 194);
        fault(2, "house a a; verse v a 1 1; rank = 1" + "+1".repeat(193) + "+^1;");
    }

    private static void promise4ReadLater() {
        fault(3, "house a a; house ^a b;");
        fault(3, "house a a; verse ^a b 1 1;");
        fault(3, "house ann a; house ab a; house ^ann b;");
        fine("house ann a; house amn a; house anm a; house bnn a;");
        fault(3, "verse v a 1 1; house h a; verse ^v a 1 1;");
        fine("house a a; house b a; verse ab a 1 1; verse abc a 1 1; verse bc a 1 1;");
        fault(5, "verse v a ^100 1;");
        fault(5, "verse v a 99 ^100;");
        fine("verse v a 99 99;");
        fine("verse v a 0 0;");
        fault(5, "spoils ^0;");
        fault(5, "spoils ^100;");
        fine("spoils 1; spoils 99;");
        fault(5, "spoils ^0; spoils 5;");
        fault(5, "thieves ^101;");
        fine("thieves 100; thieves 0; seed 9999; seed 0;");
        fault(6, "house a ^abi;");
        fault(6, "house a ^z;");
        fault(6, "verse v ^hi 1 1;");
        fault(6, "house a ^i; house a b;");
        fault(3, "house a a; house ^a i;");
        fault(6, "verse v ^ai 100 100;");
        fault(5, "spoils ^0; house a i; house a i;");
        fault(1, "spoils 0; ^x");
        fault(2, "house a i; house b a;house c a;house d a;house e a; ^house a i;");
    }

    private static void promise4ReadChanges() {
        CapitalCase x = Due.town("house a ab; house b a; verse v a 7 1; verse w b 5 1; seed 5; thieves 100;");
        x.set(0);
        x.days(1);
        x.lend(1, 0, 0);
        x.tell(0, 1, true);
        x.hold(2);
        int[] before = new int[16];
        for (int what = 0; what <= 15; what++) {
            before[what] = x.count(what);
        }
        Due.feed(x, "house a abi;");
        Due.due("fault", x.read(), 6);
        for (int what = 0; what <= 15; what++) {
            Due.due("a fault leaves count(" + what + ")", x.count(what), before[what]);
        }
        Due.feed(x, "house c abc; verse u");
        Due.due("fault", x.read(), 1);
        Due.due("names are not kept", x.house(0, 2, 0), 0);
        Due.due("undo goes on", x.undo(), true);
        Due.due("the slot holds on", x.restore(2), true);
        Due.feed(x, "house c abc; verse u abc 3 4;");
        Due.due("read", x.read(), 0);
        int[] due = {1, 1, 0, 0, 0, 0, 3, 0, 0, 0, 0, 0, 0, 0, 1, 0};
        for (int what = 0; what <= 15; what++) {
            Due.due("a text begins anew, count(" + what + ")", x.count(what), due[what]);
        }
        Due.due("nothing can be undone", x.undo(), false);
        Due.due("slots hold nothing", x.restore(2), false);
        Due.due("nothing is worn", x.house(0, 0, 3), 0);
        Due.due("nothing is told", x.whose(1, 0), -1);
        Due.due("an empty text", x.read(), 0);
        Due.due("no houses", x.count(0), 0);
        Due.due("no verses", x.count(1), 0);
    }

    private static void promise4ReadDefaults() {
        CapitalCase x = Due.town("house a a; verse v a 7 1; leave = 0; rank = 5; wears = 3; pays = 2; spoils 4; thieves 100;");
        Due.due("leave told", x.tells(0, 0, 0, 0), 0);
        Due.feed(x, "house a a; verse v a 7 1;");
        x.read();
        Due.due("leave not told", x.tells(0, 0, 0, 0), 1);
        Due.due("rank not told", x.tells(0, 0, 0, 1), 0);
        Due.due("wears not told", x.house(0, 0, 6), 1);
        Due.due("pays not told", x.verse(0, 4), 7);
        Due.due("thieves not told", x.count(13), 0);
        x.set(0);
        Due.due("spoils not told", x.wornOut(0, 0), 20);
        x = Due.town("house a a; verse v a 7 1; rank = 1; rank = 2; spoils 3; spoils 9; thieves 100; thieves 0; rank = 3;");
        Due.due("the last law", x.tells(0, 0, 0, 1), 3);
        x.set(0);
        Due.due("the last spoils", x.wornOut(0, 0), 9);
        Due.due("the last thieves", x.count(13), 0);
    }

    private static void promise5Place() {
        CapitalCase x = new CapitalCase();
        Due.feed(x, "house a a; x");
        Due.due("none yet", x.place(), -1);
        x.read();
        Due.due("the fault's", x.place(), 11);
        x.feed(0, 0, 0, 0, 0);
        Due.due("still the latest read's", x.place(), 11);
        x.back(20);
        x.days(1);
        x.undo();
        Due.due("still the latest read's", x.place(), 11);
        x.read();
        Due.due("without", x.place(), -1);
    }
}
