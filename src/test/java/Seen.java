/** All that can be seen of an object, and twins: one by which a call was refused, and one that was never asked. */
final class Seen {
    interface Calls {
        void on(CapitalCase x);
    }

    private Seen() {
    }

    static String of(CapitalCase x) {
        StringBuilder out = new StringBuilder();
        for (int what = 0; what <= 15; what++) {
            out.append(what == 0 ? "" : ",").append(x.count(what));
        }
        int houses = x.count(0);
        int verses = x.count(1);
        for (int house = 0; house < houses; house++) {
            for (int letter = 0; letter < 8; letter++) {
                out.append(letter == 0 ? "; house " : ",");
                for (int what = 0; what <= 6; what++) {
                    out.append(' ').append(x.house(house, letter, what));
                }
            }
        }
        for (int verse = 0; verse < verses; verse++) {
            out.append("; verse ").append(x.verse(verse, 3)).append(' ').append(x.verse(verse, 4));
            for (int i = 0; i < x.verse(verse, 2); i++) {
                out.append(' ').append(x.from(verse, i));
            }
        }
        for (int k = 0; k <= x.count(11); k++) {
            out.append("; whose ").append(x.whose(k, 1));
        }
        return out.append("; place ").append(x.place()).toString();
    }

    /** And what is behind it, by undoing all that can be. */
    private static String allOf(CapitalCase x) {
        StringBuilder out = new StringBuilder(of(x));
        for (int i = 0; i < 31; i++) {
            out.append("; undo ").append(x.undo()).append(' ').append(x.count(2)).append(' ').append(x.count(4));
        }
        for (int slot = 0; slot <= 2; slot++) {
            out.append("; restore ").append(x.restore(slot)).append(' ').append(x.count(2)).append(' ').append(x.count(4));
        }
        return out.toString();
    }

    static void nothingHappens(String text, Calls ahead, Calls refused) {
        CapitalCase asked = Due.town(text);
        CapitalCase twin = Due.town(text);
        ahead.on(asked);
        ahead.on(twin);
        refused.on(asked);
        String got = allOf(asked);
        String want = allOf(twin);
        Due.due("nothing happens to " + text + "\n is now " + got + "\n was ahead " + want + "\n the same", got.equals(want), true);
    }
}
