import java.util.ArrayDeque;
import java.util.ArrayList;
import java.util.Deque;
import java.util.HashMap;
import java.util.List;
import java.util.Map;
import java.util.regex.Matcher;
import java.util.regex.Pattern;

/** A text read in another way than the class does: form by Earley's sets, depth by a stack, works by a tree. */
final class ModelText {
    private static final Pattern TOKEN = Pattern.compile("[a-z]+|[0-9]+|[\\s\\S]");
    private static final String WORDS = " in table let out choose ask ";
    /** A rule: its left side, then its right side; small letters and signs are TOKENS. */
    private static final String[][] RULES = {
        {"S"}, {"S", "S", "TELL"},
        {"TELL", "in", "name", ";"}, {"TELL", "table", "name", ":", "INTS", ";"},
        {"TELL", "let", "name", "=", "E", ";"}, {"TELL", "out", "E", ";"},
        {"INTS", "int"}, {"INTS", "INTS", ",", "int"},
        {"E", "PART"}, {"E", "E", "+", "PART"}, {"E", "E", "-", "PART"},
        {"PART", "UNIT"}, {"PART", "PART", "*", "UNIT"},
        {"UNIT", "int"}, {"UNIT", "name"}, {"UNIT", "(", "E", ")"},
        {"UNIT", "choose", "UNIT", "UNIT", "UNIT"}, {"UNIT", "ask", "name", "UNIT"},
    };

    final int t;
    int fault = 0;
    int place = -1;
    int ins = 0;
    final List<int[]> works = new ArrayList<>();
    final List<Integer> outs = new ArrayList<>();
    private final List<String> kinds = new ArrayList<>();
    private final List<String> spelled = new ArrayList<>();
    private final List<Integer> places = new ArrayList<>();
    private final Map<String, Integer> values = new HashMap<>();
    private final Map<String, int[]> tables = new HashMap<>();
    private int at = 0;

    ModelText(String text, int t) {
        this.t = t;
        split(text);
        form(text.length());
        if (fault == 0) {
            names();
        }
        if (fault == 0) {
            make();
        }
    }

    private void split(String text) {
        Matcher matcher = TOKEN.matcher(text);
        while (matcher.find()) {
            String token = matcher.group();
            char first = token.charAt(0);
            if (first == ' ' || first == '\t' || first == '\n' || first == '\r') {
                continue;
            }
            String kind = token;
            if (first >= 'a' && first <= 'z') {
                kind = WORDS.contains(" " + token + " ") ? token : token.length() <= 8 ? "name" : "none";
            } else if (first >= '0' && first <= '9') {
                kind = token.length() <= 4 ? "int" : "none";
            } else if (";:,=+-*()".indexOf(first) < 0) {
                kind = "none";
            }
            kinds.add(kind);
            spelled.add(token);
            places.add(matcher.start());
        }
    }

    /** An item: rule, how far, from which set. */
    private void form(int length) {
        List<List<int[]>> sets = new ArrayList<>();
        sets.add(new ArrayList<>());
        put(sets.get(0), 0, 1, 0);
        put(sets.get(0), 1, 1, 0);
        int[] told = new int[3];
        Deque<Integer> within = new ArrayDeque<>();
        for (int i = 0; ; i++) {
            close(sets, i);
            if (i == kinds.size()) {
                boolean whole = sets.get(i).stream().anyMatch(x -> RULES[x[0]][0].equals("S") && ended(x) && x[2] == 0);
                if (!whole) {
                    tell(1, length);
                }
                return;
            }
            String kind = kinds.get(i);
            List<int[]> next = new ArrayList<>();
            for (int[] item : sets.get(i)) {
                if (!ended(item) && RULES[item[0]][item[1]].equals(kind)) {
                    put(next, item[0], item[1] + 1, item[2]);
                }
            }
            if (next.isEmpty()) {
                tell(1, places.get(i));
                return;
            }
            sets.add(next);
            if (i >= 300 || tooMany(kind, told) || tooDeep(i, within)) {
                tell(2, places.get(i));
                return;
            }
        }
    }

    private static boolean ended(int[] item) {
        return item[1] == RULES[item[0]].length;
    }

    private static void put(List<int[]> set, int rule, int dot, int from) {
        for (int[] item : set) {
            if (item[0] == rule && item[1] == dot && item[2] == from) {
                return;
            }
        }
        set.add(new int[] {rule, dot, from});
    }

    private static void close(List<List<int[]>> sets, int i) {
        List<int[]> set = sets.get(i);
        boolean grew = true;
        while (grew) {
            int before = set.size();
            for (int n = 0; n < set.size(); n++) {
                int[] item = set.get(n);
                if (ended(item)) {
                    String left = RULES[item[0]][0];
                    List<int[]> from = sets.get(item[2]);
                    for (int m = 0; m < from.size(); m++) {
                        int[] waiting = from.get(m);
                        if (!ended(waiting) && RULES[waiting[0]][waiting[1]].equals(left)) {
                            put(set, waiting[0], waiting[1] + 1, waiting[2]);
                        }
                    }
                } else {
                    for (int r = 0; r < RULES.length; r++) {
                        if (RULES[r][0].equals(RULES[item[0]][item[1]])) {
                            put(set, r, 1, i);
                        }
                    }
                }
            }
            grew = set.size() > before;
        }
    }

    private boolean tooMany(String kind, int[] told) {
        return kind.equals("in") && ++told[0] > 6 || kind.equals("table") && ++told[1] > 4
            || kind.equals("out") && ++told[2] > 4;
    }

    /** Each open ( is 0 on the stack, each choose and ask how many units it still waits for. */
    private boolean tooDeep(int i, Deque<Integer> within) {
        String kind = kinds.get(i);
        String before = i > 0 ? kinds.get(i - 1) : "";
        boolean unitEnds = false;
        if (kind.equals("(") || kind.equals("choose") || kind.equals("ask")) {
            within.push(kind.equals("(") ? 0 : kind.equals("choose") ? 3 : 1);
        } else if (kind.equals(")")) {
            within.pop();
            unitEnds = true;
        } else if (kind.equals("int") || kind.equals("name")) {
            unitEnds = !before.equals("ask");
        }
        while (unitEnds && !within.isEmpty() && within.peek() > 0) {
            int left = within.pop() - 1;
            unitEnds = left == 0;
            if (left > 0) {
                within.push(left);
            }
        }
        return within.size() > 6;
    }

    private void tell(int number, int where) {
        fault = number;
        place = where;
    }

    private void names() {
        Map<String, String> told = new HashMap<>();
        List<int[]> found = new ArrayList<>();
        int start = 0;
        for (int i = 0; i < kinds.size(); i++) {
            if (!kinds.get(i).equals(";")) {
                continue;
            }
            String word = kinds.get(start);
            String name = spelled.get(start + 1);
            if (!word.equals("out") && told.containsKey(name)) {
                found.add(new int[] {places.get(start + 1), 3});
            }
            if (word.equals("table") && ((i - start - 2) / 2 != t || ",2,3,5,7,11,13,".indexOf("," + t + ",") < 0)) {
                found.add(new int[] {places.get(start + 1), 5});
            }
            if (word.equals("let") || word.equals("out")) {
                for (int j = word.equals("let") ? start + 3 : start + 1; j < i; j++) {
                    String is = told.getOrDefault(spelled.get(j), "");
                    boolean asked = kinds.get(j - 1).equals("ask");
                    boolean fine = asked ? is.equals("table") : is.equals("in") || is.equals("let");
                    if (kinds.get(j).equals("name") && !fine) {
                        found.add(new int[] {places.get(j), 4});
                    }
                }
            }
            if (!word.equals("out")) {
                told.putIfAbsent(name, word);
            }
            start = i + 1;
        }
        found.sort((a, b) -> a[0] != b[0] ? a[0] - b[0] : a[1] - b[1]);
        if (!found.isEmpty()) {
            tell(found.get(0)[1], found.get(0)[0]);
        }
    }

    private void make() {
        while (at < kinds.size()) {
            int word = at++;
            if (kinds.get(word).equals("in")) {
                values.put(spelled.get(at), -10 - ins++);
                at += 2;
            } else if (kinds.get(word).equals("table")) {
                int[] ints = new int[t];
                for (int i = 0; i < t; i++) {
                    ints[i] = Integer.parseInt(spelled.get(at + 2 + 2 * i)) % t;
                }
                tables.put(spelled.get(at), ints);
                at += 2 + 2 * t;
            } else if (kinds.get(word).equals("let")) {
                String name = spelled.get(at);
                at += 2;
                values.put(name, e());
                at++;
            } else {
                outs.add(e());
                at++;
            }
            if (works.size() > 40) {
                tell(6, places.get(word));
                return;
            }
        }
    }

    private int e() {
        int value = part();
        while (kinds.get(at).equals("+") || kinds.get(at).equals("-")) {
            boolean plus = kinds.get(at++).equals("+");
            int other = part();
            value = plus ? plus(value, other) : minus(value, other);
        }
        return value;
    }

    private int part() {
        int value = unit();
        while (kinds.get(at).equals("*")) {
            at++;
            value = times(value, unit());
        }
        return value;
    }

    private int unit() {
        int token = at++;
        switch (kinds.get(token)) {
            case "int":
                return -30 - Integer.parseInt(spelled.get(token)) % t;
            case "name":
                return values.get(spelled.get(token));
            case "(": {
                int value = e();
                at++;
                return value;
            }
            case "choose": {
                int c = unit();
                int a = unit();
                int b = unit();
                return plus(times(c, minus(a, b)), b);
            }
            default: {
                int[] ints = tables.get(spelled.get(at++));
                int[] xs = new int[t];
                for (int i = 0; i < t; i++) {
                    xs[i] = i;
                }
                int[] coefficients = Linear.polynomial(xs, ints, t, t);
                int x = unit();
                int h = -30 - coefficients[t - 1];
                for (int i = t - 2; i >= 0; i--) {
                    h = plus(times(h, x), -30 - coefficients[i]);
                }
                return h;
            }
        }
    }

    private int work(int kind, int a, int b) {
        works.add(new int[] {kind, a, b});
        return works.size() - 1;
    }

    private int plus(int a, int b) {
        if (a <= -30 && b <= -30) {
            return -30 - (-30 - a + -30 - b) % t;
        }
        if (a <= -30) {
            return a == -30 ? b : work(4, b, -30 - a);
        }
        if (b <= -30) {
            return b == -30 ? a : work(4, a, -30 - b);
        }
        return work(1, a, b);
    }

    private int minus(int a, int b) {
        if (a <= -30 && b <= -30) {
            return -30 - Math.floorMod(b - a, t);
        }
        if (b <= -30) {
            return b == -30 ? a : work(4, a, t - (-30 - b));
        }
        if (a <= -30) {
            int negative = work(5, b, -1);
            return a == -30 ? negative : work(4, negative, -30 - a);
        }
        return work(2, a, b);
    }

    private int times(int a, int b) {
        if (a <= -30 && b <= -30) {
            return -30 - (-30 - a) * (-30 - b) % t;
        }
        if (a > -30 && b > -30) {
            return work(3, a, b);
        }
        int k = -30 - Math.min(a, b);
        int other = Math.max(a, b);
        if (k == 0) {
            return -30;
        }
        return k == 1 ? other : work(5, other, Math.abs(k - t) < Math.abs(k) ? k - t : k);
    }

    List<Integer> openly(int v) {
        List<Integer> done = new ArrayList<>();
        for (int[] work : works) {
            int a = valueOf(work[1], v, done);
            int b = work[0] >= 4 ? work[2] : valueOf(work[2], v, done);
            done.add(Math.floorMod(work[0] == 1 || work[0] == 4 ? a + b : work[0] == 2 ? a - b : a * b, t));
        }
        List<Integer> answers = new ArrayList<>();
        for (int out : outs) {
            answers.add(valueOf(out, v, done));
        }
        return answers;
    }

    private int valueOf(int code, int v, List<Integer> done) {
        if (code >= 0) {
            return done.get(code);
        }
        return code <= -30 ? -30 - code : v / (int) Math.pow(t, -10 - code) % t;
    }
}
