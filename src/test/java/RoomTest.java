import java.lang.management.ManagementFactory;

/** All calls of a run live in one room: once a town stands, calls make nothing but the rows that undo and slots keep. */
public final class RoomTest {
    private static final String LAW = "if worn * 3 < has + day then (value + due) * (which + 2) else if lent < letter then 5 else 3;";
    private static final String TOWN = "house a aabbccdd; house b abcdefgh; house c eeffgghh; house d abababab; house e hgfedcba;"
            + "verse va abcdefgh 9 1; verse vb aabbccdd 8 2; verse vc efghefgh 7 3; verse vd abab 6 4; verse ve cdcd 5 5;"
            + "verse vf efef 4 6; verse vg ghgh 3 7; leave = " + LAW + " rank = " + LAW + " thieves 50; spoils 9;";

    public static void main(String[] args) {
        CapitalCase warm = Due.town(TOWN);
        for (int i = 0; i < 5; i++) {
            calls(warm);
        }
        long before = allocated();
        CapitalCase x = new CapitalCase();
        long made = allocated() - before;
        Due.due("an object takes " + made + " bytes", made < 60_000, true);
        Due.feed(x, TOWN);
        x.read();
        before = allocated();
        for (int i = 0; i < 40; i++) {
            calls(x);
        }
        made = allocated() - before;
        // thirty rows and three of 376 ints each
        Due.due("calls take " + made + " bytes", made < 80_000, true);
        before = allocated();
        for (int i = 0; i < 40; i++) {
            calls(x);
        }
        made = allocated() - before;
        Due.due("later calls take " + made + " bytes", made < 4_000, true);
        Due.end();
    }

    private static long allocated() {
        return ((com.sun.management.ThreadMXBean) ManagementFactory.getThreadMXBean()).getCurrentThreadAllocatedBytes();
    }

    private static void calls(CapitalCase x) {
        for (int i = 0; i < 40; i++) {
            x.set(i % 7);
            x.lend(i % 5, (i + 1) % 5, i % 8);
            x.clear(i % 7);
            x.hold(i % 3);
            x.undo();
        }
        x.days(1);
        x.best(0);
        x.twoDays(1);
        x.pillar(0);
        x.worth(0, 0);
        x.bargains(0);
        x.year(0, 0, 60, 20);
        x.then(0, 0, 60, 0);
        x.wornOut(0, 0);
        x.count(14);
        x.restore(0);
    }
}
