import java.util.Arrays;
import java.util.Random;

/** Texts and numbers drawn by a seed; most of them can be read, or are of use. */
final class Drawn {
    final Random random;

    Drawn(long seed) {
        random = new Random(seed);
    }

    int below(int n) {
        return random.nextInt(n);
    }

    boolean seldom(int n) {
        return below(n) == 0;
    }

    /** 0 .. most, seldom more or anything; below 0: any number. */
    int argument(int most) {
        switch (below(most < 0 ? 4 : 40)) {
            case 0:
                return -1 - below(3);
            case 1:
                return random.nextInt();
            case 2:
                return below(1000);
            case 3:
                return 1 << below(27);
            default:
                return below(Math.max(0, most) + (seldom(8) ? 2 : 1));
        }
    }

    String lockText(int lines) {
        StringBuilder b = new StringBuilder();
        int wide = 1 + below(12);
        int from = 2 + below(8);
        for (int i = 0; i < lines; i++) {
            int[] notes = new int[4];
            for (int k = 0; k < 4; k++) {
                notes[k] = from + below(wide);
            }
            Arrays.sort(notes);
            b.append(i > 0 ? ";" : "");
            for (int note : notes) {
                b.append((char) ('a' + note));
            }
            b.append(1 + below(9));
        }
        return b.toString();
    }

    String singerText(int lines, int places) {
        StringBuilder b = new StringBuilder();
        for (int i = 0; i < lines; i++) {
            int low = below(seldom(4) ? 16 : 6);
            int high = low + below(26 - low);
            high = seldom(4) ? high : Math.max(high, 12 + below(14));
            b.append(i > 0 ? ";" : "").append((char) ('a' + low)).append((char) ('a' + high));
            b.append(below(places + 1)).append(':').append(below(seldom(3) ? 40 : 8));
        }
        return b.toString();
    }

    String bargeText(int lines, int places) {
        StringBuilder b = new StringBuilder();
        for (int i = 0; i < lines; i++) {
            b.append(i > 0 ? ";" : "").append(below(places + 1)).append(below(10));
        }
        return b.toString();
    }

    String ruleText(int depth) {
        int kind = below(depth > 5 ? 2 : 9);
        if (kind == 0) {
            return "" + below(seldom(2) ? 10 : 1000);
        }
        if (kind < 4) {
            return "" + "ntlwucm".charAt(below(7));
        }
        if (kind == 4) {
            return "-" + ruleText(depth + 1);
        }
        if (kind == 5) {
            return "(" + ruleText(depth + 1) + ")";
        }
        return ruleText(depth + 1) + "<>=+-*/+-*/".charAt(below(11)) + ruleText(depth + 1);
    }

    String dayText() {
        StringBuilder b = new StringBuilder();
        int acts = below(6);
        for (int i = 0; i < acts; i++) {
            b.append(i > 0 ? ";" : "");
            switch (below(5)) {
                case 0:
                    b.append('h').append(below(2)).append(below(8));
                    break;
                case 1:
                    b.append('l').append(below(9));
                    break;
                case 2:
                    b.append('r').append(below(seldom(4) ? 700 : 40));
                    break;
                default:
                    b.append(seldom(2) ? 'u' : 'd').append(below(2));
            }
        }
        return b.toString();
    }

    String queueText() {
        StringBuilder b = new StringBuilder();
        int many = below(11);
        for (int i = 0; i < many; i++) {
            b.append(seldom(2) ? 'u' : 'd');
        }
        return b.toString();
    }

    /** A text for a call that reads one, every third spoilt; null for other calls. */
    String textFor(String call) {
        String fine = fineTextFor(call);
        if (fine == null || !seldom(3)) {
            return cut(fine);
        }
        StringBuilder b = new StringBuilder(fine);
        spoil(b);
        return cut(b.toString());
    }

    private String fineTextFor(String call) {
        switch (call) {
            case "locks":
                return lockText(below(6));
            case "singers":
                return singerText(below(6), 3);
            case "barges":
                return bargeText(below(4), 2);
            case "rule":
                return ruleText(0);
            case "day":
                return dayText();
            case "queue":
                return queueText();
            default:
                return null;
        }
    }

    /** THE TEXT has room for 80 signs. */
    private static String cut(String text) {
        return text != null && text.length() > 80 ? text.substring(0, 80) : text;
    }

    private void spoil(StringBuilder b) {
        String signs = "abz;:019nt()<>=+-*/udhlr" + (char) 0 + (char) 255;
        int at = b.length() == 0 ? 0 : below(b.length());
        switch (below(4)) {
            case 0:
                b.setLength(at);
                break;
            case 1:
                b.insert(at, signs.charAt(below(signs.length())));
                break;
            case 2:
                b.append(b.length() > 0 ? ";" : "").append(b);
                break;
            default:
                if (b.length() > 0) {
                    b.setCharAt(at, signs.charAt(below(signs.length())));
                }
        }
    }
}
