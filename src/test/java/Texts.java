import java.util.ArrayList;
import java.util.Collections;
import java.util.List;
import java.util.Random;

/** Makes library texts of many shapes; the seed alone decides which. */
final class Texts {
    private static final String LITERALS = "abcxyzABCZ09 {;:/\n~!,";
    private final Random random;
    private final List<Integer> ranks = new ArrayList<>();
    private final StringBuilder out = new StringBuilder();
    private int occurrences;
    private int fieldsUsed;
    private boolean isCareful;
    private int end;

    Texts(Random random) {
        this.random = random;
        for (int f = 0; f < 10; f++) {
            ranks.add(f);
        }
    }

    String library() {
        out.setLength(0);
        int style = random.nextInt(12);
        if (style == 0) {
            many();
        } else if (style == 1) {
            tower();
        } else if (style == 2) {
            yielding();
        } else {
            some();
        }
        if (random.nextInt(4) == 0) {
            spoil();
        }
        if (out.length() > 700) {
            out.setLength(700);
        }
        return out.toString();
    }

    private void some() {
        int count = 1 + random.nextInt(4);
        for (int i = 0; i < count; i++) {
            order(6);
            head(name(i, 12));
            end = out.length() + (700 - out.length()) / (count - i) * 3 / 4;
            body(i);
        }
        order(3);
    }

    private void body(int i) {
        occurrences = 0;
        isCareful = random.nextInt(8) != 0;
        fieldsUsed = random.nextInt(6) == 0 ? 0 : 1 + random.nextInt(random.nextBoolean() ? 4 : 10);
        Collections.shuffle(ranks, random);
        int kind = random.nextInt(7);
        if (kind == 0) {
            mirrors();
        } else if (kind == 1 && i > 0) {
            literals(random.nextInt(60));
        } else if (kind == 2) {
            literals(150 + random.nextInt(300));
            parts(0, 0);
        } else {
            parts(0, 0);
        }
        out.append('}');
    }

    /** Few fields in many places, so that the TEXT grows fast. */
    private void mirrors() {
        int count = 5 + random.nextInt(58);
        int wide = 1 + random.nextInt(2);
        for (int k = 0; k < count && out.length() < 680; k++) {
            out.append('$').append(random.nextInt(6) == 0 ? 0 : 1 + random.nextInt(wide));
        }
        if (random.nextBoolean()) {
            literals(random.nextInt(250));
        }
    }

    private void parts(int nesting, int rank) {
        int count = random.nextInt(nesting == 0 ? 12 : 5);
        for (int k = 0; k < count && out.length() < end; k++) {
            if (random.nextInt(3) == 0 || fieldsUsed == 0) {
                literals(1 + random.nextInt(random.nextInt(12) == 0 ? 50 : 4));
            } else {
                occurrence(nesting, rank);
            }
        }
    }

    private void occurrence(int nesting, int rank) {
        if (isCareful && (occurrences >= 60 || rank >= fieldsUsed)) {
            return;
        }
        occurrences++;
        int place = isCareful ? rank + random.nextInt(fieldsUsed - rank) : random.nextInt(10);
        int field = ranks.get(place);
        int form = random.nextInt(10);
        if (form == 0) {
            out.append('$').append(field);
        } else if (form == 1) {
            out.append("${").append(field).append('}');
        } else if (form <= 3) {
            out.append("${").append(field).append('/').append("ulrfn".charAt(random.nextInt(5))).append('}');
        } else if (nesting >= 4 && isCareful) {
            out.append('$').append(field);
        } else {
            out.append("${").append(field).append(':');
            parts(nesting + 1, place + 1);
            out.append('}');
        }
    }

    private void literals(int count) {
        for (int k = 0; k < count && out.length() < 690; k++) {
            int form = random.nextInt(14);
            if (form < 2) {
                out.append(form == 0 ? "$$" : "$}");
            } else {
                out.append(LITERALS.charAt(random.nextInt(LITERALS.length())));
            }
        }
    }

    /** Each field stands several times in the default of the one below. */
    private void tower() {
        int levels = 2 + random.nextInt(9);
        int wide = 1 + random.nextInt(7);
        head("t");
        for (int f = 1; f <= levels; f++) {
            out.append("${").append(f % 10).append(':');
            for (int k = 0; k < wide && f < levels; k++) {
                out.append('$').append((f + 1) % 10);
            }
            literals(f < levels ? random.nextInt(2) : random.nextInt(200));
            out.append('}');
        }
        for (int f = 1; f <= levels; f++) {
            if (random.nextInt(3) == 0) {
                out.append("${").append(f % 10).append("/n}");
            }
        }
        out.append('}');
    }

    /** A short default of a field keeps a long one from being shown, until the field around it is typed. */
    private void yielding() {
        head("y");
        out.append("${1:");
        literals(random.nextInt(3));
        out.append("${2:");
        literals(random.nextInt(4));
        out.append("$3}}");
        if (random.nextBoolean()) {
            out.append("${3:");
            literals(random.nextInt(50));
            out.append('}');
        }
        out.append("${2:");
        literals(100 + random.nextInt(260));
        if (random.nextBoolean()) {
            out.append("${3:");
            literals(random.nextInt(50));
            out.append('}');
        }
        out.append('}');
        literals(random.nextInt(60));
        out.append(random.nextBoolean() ? "$2}" : "$1$1$1}");
    }

    private void many() {
        int count = 6 + random.nextInt(4);
        for (int i = 0; i < count; i++) {
            order(8);
            head(name(i, 60));
            literals(random.nextInt(10));
            if (random.nextBoolean()) {
                out.append("$").append(random.nextInt(10));
            }
            out.append('}');
        }
    }

    private void head(String name) {
        blanks(0);
        out.append("snippet");
        blanks(1);
        out.append(name);
        blanks(0);
        out.append('{');
    }

    private String name(int i, int rarity) {
        String name = String.valueOf((char) ('a' + i));
        if (random.nextInt(rarity) == 0) {
            return "a";
        }
        return name.repeat(1 + random.nextInt(random.nextInt(12) == 0 ? 10 : 8));
    }

    private void order(int rarity) {
        if (random.nextInt(rarity) == 0) {
            blanks(0);
            out.append("order");
            blanks(1);
            out.append(random.nextInt(3) == 0 ? "numbers" : "places");
            blanks(0);
            out.append(';');
            blanks(0);
        }
    }

    private void blanks(int least) {
        int count = least + (random.nextInt(5) == 0 ? random.nextInt(3) : 0);
        for (int k = 0; k < count; k++) {
            out.append(random.nextInt(3) == 0 ? '\n' : ' ');
        }
    }

    private void spoil() {
        int at = random.nextInt(out.length());
        String wrong = "$}{:/0159 \n;aZ\t\u0080~u";
        char told = wrong.charAt(random.nextInt(wrong.length()));
        switch (random.nextInt(4)) {
            case 0:
                out.setLength(at);
                break;
            case 1:
                out.deleteCharAt(at);
                break;
            case 2:
                out.insert(at, told);
                break;
            default:
                out.setCharAt(at, told);
                break;
        }
    }
}
