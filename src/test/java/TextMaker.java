import java.util.Random;

/** Makes texts by a seed: mostly without a fault, some with a byte or a token wrong. */
final class TextMaker {
    private static final String[] VARS = {"value", "due", "day", "worn", "has", "which", "letter", "long", "lent"};
    private static final String[] PIECES = {";", "(", ")", "if", "<", "house", "12345", "i", "abcdefghi", "7", "else",
        "=", "/", "verse", "A", ".", "101", "0", "and"};

    private final Random random;

    TextMaker(Random random) {
        this.random = random;
    }

    private int under(int n) {
        return random.nextInt(n);
    }

    String text() {
        StringBuilder out = new StringBuilder();
        int houses = under(20) == 0 ? 6 : under(4) == 0 ? under(6) : 2 + under(4);
        int verses = under(20) == 0 ? 8 : under(4) == 0 ? under(8) : 2 + under(6);
        int letters = 2 + under(7);
        for (int i = 0; i < houses; i++) {
            out.append("house h").append((char) ('a' + i)).append(' ').append(letters(letters, 8)).append(";\n");
        }
        for (int i = 0; i < verses; i++) {
            int wants = under(3) == 0 ? 8 : 4;
            out.append("verse v").append((char) ('a' + i)).append(' ').append(letters(letters, wants)).append(' ')
                    .append(under(3) == 0 ? under(100) : under(12)).append(' ').append(under(8)).append("; ");
        }
        String[] laws = {"leave", "rank", "wears", "pays"};
        for (String law : laws) {
            if (under(2) == 0) {
                out.append(law).append('=').append(law(law)).append(';');
            }
        }
        if (under(3) > 0) {
            out.append("spoils ").append(1 + under(under(3) == 0 ? 99 : 12)).append(';');
        }
        if (under(3) > 0) {
            out.append("thieves ").append(under(101)).append(" ;\t");
        }
        if (under(2) == 0) {
            out.append("seed ").append(under(10000)).append(';');
        }
        return under(4) == 0 ? spoilt(out) : out.toString();
    }

    private String letters(int of, int most) {
        StringBuilder out = new StringBuilder();
        for (int n = 1 + under(most); n > 0; n--) {
            out.append((char) ('a' + under(of)));
        }
        return out.toString();
    }

    private String law(String law) {
        StringBuilder out = new StringBuilder();
        int ifs = under(40) == 0 ? 5 : under(3);
        for (int i = 0; i < ifs; i++) {
            out.append(" if ").append(sum(1)).append('<').append(sum(1)).append(" then ").append(sum(1)).append(" else ");
        }
        if (law.equals("leave") && under(2) == 0) {
            out.append(1 + under(4)).append('+');
        }
        if (law.equals("pays") && under(2) == 0) {
            out.append("value + ");
        }
        out.append(under(60) == 0 ? deep(5 + under(3)) : sum(0));
        return out.toString();
    }

    private String deep(int n) {
        return "(".repeat(n) + sum(2) + ")".repeat(n);
    }

    private String sum(int depth) {
        StringBuilder out = new StringBuilder(part(depth));
        for (int n = under(3); n > 0; n--) {
            out.append(under(2) == 0 ? '+' : '-').append(part(depth));
        }
        return out.toString();
    }

    private String part(int depth) {
        StringBuilder out = new StringBuilder(unit(depth));
        while (under(3) == 0) {
            out.append(under(2) == 0 ? '*' : '/').append(unit(depth));
        }
        return out.toString();
    }

    private String unit(int depth) {
        if (depth < 3 && under(5) == 0) {
            return "(" + sum(depth + 1) + ")";
        }
        if (under(3) == 0) {
            return Integer.toString(under(12) == 0 ? under(10000) : under(6));
        }
        return VARS[under(VARS.length)];
    }

    private String spoilt(StringBuilder out) {
        if (out.length() == 0) {
            return "";
        }
        int at = under(out.length());
        switch (under(10)) {
            case 0:
                out.deleteCharAt(at);
                break;
            case 1:
                out.setCharAt(at, (char) under(256));
                break;
            case 2:
                out.insert(at, " " + PIECES[under(PIECES.length)] + " ");
                break;
            case 3:
                out.insert(at, PIECES[under(PIECES.length)]);
                break;
            case 4:
                out.setLength(at);
                break;
            case 5:
                out.append(out.substring(at));
                break;
            case 6:
                return out.toString().replaceFirst(" h[b-e] ", " ha ");
            case 7:
                return out.toString().replaceFirst(" v[b-g] ", " ha ");
            case 8:
                return out.toString().replaceFirst("[a-h] ?;", "i;");
            default:
                return out.toString().replaceFirst(" [0-9]+;", " 10" + under(3) + ";");
        }
        return out.toString();
    }
}
