import java.util.ArrayList;
import java.util.List;
import java.util.Random;

/** Texts for the tests by a seed: mostly ones of the grammar, some with a slip in them. */
final class RandomText {
    private static final String[] NAMES = {"a", "b", "c", "x", "y", "sq", "inner", "lettuces", "outs", "askew"};
    private static final String[] SLIPS = {
        "in", "table", "let", "out", "choose", "ask", ";", ":", ",", "=", "+", "-", "*", "(", ")", "7", "12345",
        "0000", "a", "abcdefghi", "zz", ".", "A", "\u00e9", "\u0000", " ", "\t\r\n", "in q;", "out 1;", "((((((("};
    private final Random random;
    private final int t;
    private final StringBuilder text = new StringBuilder();
    private final List<String> values = new ArrayList<>();
    private final List<String> tables = new ArrayList<>();
    private int names = 0;
    private int depth = 0;
    private int mostDepth = 4;

    RandomText(Random random, int t) {
        this.random = random;
        this.t = t;
    }

    String next() {
        mostDepth = random.nextInt(12) == 0 ? 8 : random.nextInt(6);
        int ins = random.nextInt(12) == 0 ? random.nextInt(8) : 1 + random.nextInt(3);
        for (int i = 0; i < ins; i++) {
            word("in");
            values.add(newName());
            sign(";");
        }
        int tells = random.nextInt(12) == 0 ? random.nextInt(12) : 1 + random.nextInt(4);
        for (int i = 0; i < tells; i++) {
            tell();
        }
        int slips = random.nextInt(4) == 0 ? 1 + random.nextInt(3) : 0;
        for (int i = 0; i < slips; i++) {
            slip();
        }
        return text.length() > 2000 ? text.substring(0, 2000) : text.toString();
    }

    private void tell() {
        int what = random.nextInt(10);
        boolean tabled = random.nextInt(12) == 0 || t == 2 || t == 3 || t == 5 || t == 7 || t == 11 || t == 13;
        if (what < 2 && tabled) {
            word("table");
            String name = newName();
            sign(":");
            int ints = random.nextInt(24) == 0 ? 1 + random.nextInt(14) : t;
            for (int i = 0; i < ints; i++) {
                sign(i == 0 ? "" : ",");
                text.append(random.nextInt(random.nextBoolean() ? 2 : 10000));
            }
            tables.add(name);
            sign(";");
        } else if (what < 6) {
            word("let");
            String name = newName();
            sign("=");
            sum();
            values.add(name);
            sign(";");
        } else {
            word("out");
            sum();
            sign(";");
        }
    }

    private void sum() {
        product();
        for (int i = random.nextInt(5) / 3; i > 0; i--) {
            sign(random.nextBoolean() ? "+" : "-");
            product();
        }
    }

    private void product() {
        unit();
        for (int i = random.nextInt(6) / 4; i > 0; i--) {
            sign("*");
            unit();
        }
    }

    private void unit() {
        int what = random.nextInt(depth >= mostDepth ? 6 : 10);
        depth++;
        if (what < 2 || what < 6 && values.isEmpty()) {
            text.append(' ').append(random.nextInt(random.nextInt(4) == 0 ? 10000 : 14));
        } else if (what < 6) {
            oldName(values);
        } else if (what < 8) {
            sign("(");
            sum();
            sign(")");
        } else if (what == 8 || tables.isEmpty()) {
            word("choose");
            unit();
            unit();
            unit();
        } else {
            word("ask");
            oldName(tables);
            unit();
        }
        depth--;
    }

    private void word(String word) {
        text.append(word).append(' ');
    }

    private void sign(String sign) {
        text.append(sign);
        if (random.nextInt(6) == 0) {
            text.append(" \t\n\r".charAt(random.nextInt(4)));
        }
    }

    private String newName() {
        int nth = random.nextInt(60) == 0 ? random.nextInt(NAMES.length) : names;
        String name = nth < NAMES.length ? NAMES[nth] : NAMES[nth % NAMES.length].charAt(0) + "z" + "yxwvu".charAt(nth % 5);
        text.append(name);
        names++;
        return name;
    }

    private void oldName(List<String> of) {
        boolean any = random.nextInt(80) == 0;
        text.append(' ').append(any ? NAMES[random.nextInt(NAMES.length)] : of.get(random.nextInt(of.size())));
    }

    private void slip() {
        int where = random.nextInt(text.length() + 1);
        int end = Math.min(text.length(), where + random.nextInt(3));
        text.replace(where, end, random.nextInt(3) == 0 ? "" : SLIPS[random.nextInt(SLIPS.length)]);
    }
}
