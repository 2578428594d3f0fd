/** Each boundary that the document names of a PROGRAM's values and WORKS: promises 18 to 20, 26 and 27. */
public final class BoundaryProgramTest {
    private static final int LEAST = Integer.MIN_VALUE;
    private static final int MOST = Integer.MAX_VALUE;
    private static final int A = -10;
    private static final int B = -11;
    private static final int C = -12;
    private static final int[] PRIMES = {2, 3, 5, 7, 11, 13};
    private static final Sentences DOC = new Sentences("Terms", "Promise 18", "Promise 19", "Promise 20", "Promise 26",
        "Promise 27");

    public static void main(String[] args) {
        openAndOpen();
        openMore();
        openLess();
        openTimes();
        sealedAndSealed();
        orderOfWorks();
        letsAheadOfIns();
        fortyWorksWorkedOut();
        choices();
        flatTables();
        steepTables();
        tablesOfOpenOnes();
        allTablesOfThree();
        worksOf();
        stepsOf();
        noSteps();
        outsOf();
        noOuts();
        openlyOf();
        openlyRange();
        refusedOpenly();
        differences();
        differencesOfInsAndOuts();
        refusedDifferences();
        askingChangesNothing();
        DOC.end();
    }

    private static int[] work(int kind, int a, int b) {
        return new int[] {kind, a, b};
    }

    private static int open(int k) {
        return -30 - k;
    }

    /** An E of the ins a, b, c: what it is as an out, and all WORKS that it makes. */
    private static void gives(int t, String e, int out, int[]... works) {
        givesAfter(t, "", e, out, works);
    }

    private static void givesAfter(int t, String tells, String e, int out, int[]... works) {
        SealedSums x = new SealedSums(t);
        String name = "T " + t + ": " + tells + e;
        DOC.is(name + " is read", Due.read(x, "in a;in b;in c;" + tells + "out " + e + ";"), 0);
        DOC.is(name + " has works", x.works(0), works.length);
        for (int k = 0; k < works.length; k++) {
            for (int what = 0; what < 3; what++) {
                DOC.is(name + ", step " + k + ", " + what, x.step(0, k, what), works[k][what]);
            }
        }
        DOC.is(name + " is", x.outs(0, 0), out);
    }

    private static void openAndOpen() {
        DOC.says("Terms", "OPEN and OPEN: OPEN.");
        for (int t = 2; t <= 13; t++) {
            gives(t, "0+0", open(0));
            gives(t, (t - 1) + "+1", open(0));
            gives(t, (t - 1) + "+" + (t - 1), open(t - 2));
            gives(t, "0-1", open(t - 1));
            gives(t, "0-" + (t - 1), open(1));
            gives(t, "1-1", open(0));
            gives(t, (t - 1) + "*" + (t - 1), open(1));
            gives(t, "0*" + (t - 1), open(0));
            gives(t, "9999*9999-9999+9999", open((int) (9999L * 9999 % t)));
            gives(t, "choose 1 0 1", open(0));
            gives(t, "choose " + (t - 1) + " 0 1", open(2 % t));
            gives(t, "a*0+1", open(1));
        }
    }

    private static void openMore() {
        DOC.says("Terms", "with an OPEN k: PLUS k (k 0: the other one itself)");
        for (int t = 2; t <= 13; t++) {
            gives(t, "a+0", A);
            gives(t, "0+a", A);
            gives(t, "a+" + t, A);
            gives(t, "a+" + 9996 / t * t, A);
            for (int k = 1; k < t; k++) {
                gives(t, "a+" + k, 0, work(4, A, k));
                gives(t, k + "+a", 0, work(4, A, k));
                gives(t, "b+" + (t + k), 0, work(4, B, k));
            }
            gives(t, "a+1+" + (t - 1), 1, work(4, A, 1), work(4, 0, t - 1));
        }
    }

    private static void openLess() {
        DOC.says("Terms", "less an OPEN k: PLUS (T - k) likewise; OPEN k less b: TIMES -1 of b, then PLUS k likewise");
        for (int t = 2; t <= 13; t++) {
            gives(t, "a-0", A);
            gives(t, "a-" + t, A);
            gives(t, "0-a", 0, work(5, A, -1));
            gives(t, t + "-a", 0, work(5, A, -1));
            for (int k = 1; k < t; k++) {
                gives(t, "a-" + k, 0, work(4, A, t - k));
                gives(t, k + "-a", 1, work(5, A, -1), work(4, 0, k));
            }
        }
    }

    private static void openTimes() {
        DOC.says("Terms", "k 0: OPEN 0; k 1: the other one itself; else TIMES k, or k - T if that is lesser without sign");
        for (int t = 2; t <= 13; t++) {
            gives(t, "a*0", open(0));
            gives(t, "0*a", open(0));
            gives(t, "a*" + t, open(0));
            gives(t, "a*1", A);
            gives(t, "1*a", A);
            gives(t, "a*" + (t + 1), A);
            for (int k = 2; k < t; k++) {
                int by = 2 * k > t ? k - t : k;
                gives(t, "a*" + k, 0, work(5, A, by));
                gives(t, k + "*b", 0, work(5, B, by));
            }
        }
        gives(4, "a*2", 0, work(5, A, 2));
        gives(4, "a*3", 0, work(5, A, -1));
        gives(12, "a*6", 0, work(5, A, 6));
        gives(12, "a*7", 0, work(5, A, -5));
        gives(13, "a*6", 0, work(5, A, 6));
        gives(13, "a*7", 0, work(5, A, -6));
        gives(13, "a*12", 0, work(5, A, -1));
        gives(3, "a*2", 0, work(5, A, -1));
    }

    private static void sealedAndSealed() {
        DOC.says("Terms", "a + b of sealed ones: SUM");
        gives(2, "a+b", 0, work(1, A, B));
        gives(2, "a+a", 0, work(1, A, A));
        DOC.says("Terms", "a - b: LESS");
        gives(2, "a-b", 0, work(2, A, B));
        // One less itself is no OPEN 0: it is sealed.
        gives(2, "a-a", 0, work(2, A, A));
        DOC.says("Terms", "a * b: PRODUCT");
        gives(2, "a*b", 0, work(3, A, B));
        gives(2, "b*a", 0, work(3, B, A));
        gives(2, "a*a", 0, work(3, A, A));
        // What was worked out once is worked out again where it stands again.
        gives(2, "a*b+a*b", 2, work(3, A, B), work(3, A, B), work(1, 0, 1));
        givesAfter(2, "let d=a*b;", "d+d", 1, work(3, A, B), work(1, 0, 0));
        givesAfter(2, "let d=a;", "d", A);
        givesAfter(2, "let d=3;", "d*a", A);
    }

    private static void orderOfWorks() {
        DOC.says("Terms", "come as E's are gone through, from left to right, what is within ahead of what is around");
        gives(5, "a", A);
        gives(5, "a+b*c", 1, work(3, B, C), work(1, A, 0));
        gives(5, "a*b+c", 1, work(3, A, B), work(1, 0, C));
        gives(5, "a-b-c", 1, work(2, A, B), work(2, 0, C));
        gives(5, "a-(b-c)", 1, work(2, B, C), work(2, A, 0));
        gives(5, "(a+b)*(b+c)", 2, work(1, A, B), work(1, B, C), work(3, 0, 1));
        gives(5, "a*b*c", 1, work(3, A, B), work(3, 0, C));
        gives(5, "2-a*b", 2, work(3, A, B), work(5, 0, -1), work(4, 1, 2));
        givesAfter(5, "let d=b+c;", "a*b+d", 2, work(1, B, C), work(3, A, B), work(1, 1, 0));
    }

    private static void letsAheadOfIns() {
        DOC.says("Terms", "A PROGRAM's values are OPEN (plain numbers) or sealed: ins, WORKS.");
        SealedSums x = new SealedSums(5);
        DOC.is("a let is the first TELL", Due.read(x, "let d=3;let e=d+d;in a;out d;out e;out a+d;out a*e;"), 0);
        DOC.is("OPEN", x.outs(0, 0), open(3));
        DOC.is("OPEN", x.outs(0, 1), open(1));
        DOC.is("a WORK", x.outs(0, 2), 0);
        DOC.is("its k", x.step(0, 0, 2), 3);
        DOC.is("an in", x.outs(0, 3), A);
        DOC.is("works", x.works(0), 1);
    }

    private static void fortyWorksWorkedOut() {
        DOC.says("Terms", "WORKS, numbered from 0 on, come as E's are gone through, from left to right, what is within "
            + "ahead of what is around; all by T");
        SealedSums x = new SealedSums(13);
        Due.read(x, "in a;in b;out a" + "+a".repeat(38) + "*b-1;out b;out a;");
        Due.read(x, "in a;in b;out a*b;out a;out b;");
        DOC.is("works", x.works(0), 40);
        DOC.is("the last", x.step(0, 39, 0), 4);
        for (int v = 0; v < 169; v++) {
            int a = v % 13;
            int b = v / 13;
            DOC.is("openly at " + v, x.openly(0, 0, v), (38 * a + a * b + 12) % 13);
            DOC.is("b at " + v, x.openly(0, 1, v), b);
            DOC.is("a at " + v, x.openly(0, 2, v), a);
        }
        // 38 is -1 by 13: the first outs are alike where a is -1, the others where a is b, which is at one v alone.
        DOC.is("they differ", x.differ(0, 1), 168);
        DOC.is("none differs from itself", x.differ(0, 0), 0);
    }

    private static void choices() {
        DOC.says("Terms", "choose c a b: c * (a - b) + b");
        gives(5, "choose a b c", 2, work(2, B, C), work(3, A, 0), work(1, 1, C));
        gives(5, "choose 0 b c", C, work(2, B, C));
        gives(5, "choose 1 b c", 1, work(2, B, C), work(1, 0, C));
        gives(5, "choose 2 b c", 2, work(2, B, C), work(5, 0, 2), work(1, 1, C));
        gives(5, "choose a 3 3", open(3));
        gives(5, "choose a 3 2", 0, work(4, A, 2));
        gives(5, "choose a 1 0", A);
        gives(5, "choose a 0 1", 1, work(5, A, -1), work(4, 0, 1));
        gives(5, "choose a 0 0", open(0));
        gives(5, "choose a b 0", 0, work(3, A, B));
        gives(5, "choose a 0 b", 2, work(5, B, -1), work(3, A, 0), work(1, 1, B));
        gives(5, "choose a b b", 2, work(2, B, B), work(3, A, 0), work(1, 1, B));
        gives(5, "choose (a+b) (b+c) (c+a)", 5, work(1, A, B), work(1, B, C), work(1, C, A), work(2, 1, 2),
            work(3, 0, 3), work(1, 4, 2));
    }

    private static void flatTables() {
        DOC.says("Terms", "h is its coefficient T - 1, then for each lower one c: h * x + c");
        for (int t : PRIMES) {
            givesAfter(t, tableOf(t, 0, 0), "ask t a", open(0));
            givesAfter(t, tableOf(t, 0, 1), "ask t a", open(1));
            givesAfter(t, tableOf(t, 0, t - 1), "ask t a", open(t - 1));
            givesAfter(t, tableOf(t, 0, t), "ask t a", open(0));
            givesAfter(t, tableOf(t, 1, 0), "ask t a", A);
            givesAfter(t, tableOf(t, 1, 1), "ask t a", 0, work(4, A, 1));
            givesAfter(t, tableOf(t, 1, t - 1), "ask t a", 0, work(4, A, t - 1));
        }
        givesAfter(5, tableOf(5, 2, 0), "ask t a", 0, work(5, A, 2));
        givesAfter(5, tableOf(5, 3, 4), "ask t a", 1, work(5, A, -2), work(4, 0, 4));
        givesAfter(5, "table t:9995,9996,9999,9994,9996;", "ask t a", 0, work(3, A, A));
    }

    /** The table of x times a number and another one more. */
    private static String tableOf(int t, int times, int more) {
        StringBuilder text = new StringBuilder("table t:");
        for (int i = 0; i < t; i++) {
            text.append(i == 0 ? "" : ",").append(i * times + more);
        }
        return text.append(";").toString();
    }

    private static void steepTables() {
        DOC.says("Terms", "(coefficients 0 .. T - 1, of degree below T) that has at each number the table's INT (its rest by T)");
        // 1 at 0 alone is 1 - x to the 4; 1 at all but 0 is x to the 4.
        givesAfter(5, "table t:1,0,0,0,0;", "ask t a", 4, work(5, A, -1), work(3, 0, A), work(3, 1, A), work(3, 2, A),
            work(4, 3, 1));
        givesAfter(5, "table t:0,1,1,1,1;", "ask t a", 2, work(3, A, A), work(3, 0, A), work(3, 1, A));
        givesAfter(5, "table t:0,4,4,4,4;", "ask t a", 3, work(5, A, -1), work(3, 0, A), work(3, 1, A), work(3, 2, A));
        givesAfter(5, "table t:5,6,11,9996,16;", "ask t a", 2, work(3, A, A), work(3, 0, A), work(3, 1, A));
        givesAfter(2, "table t:1,0;", "ask t a", 0, work(4, A, 1));
        givesAfter(2, "table t:0,1;", "ask t (a*b)", 0, work(3, A, B));
        givesAfter(3, "table t:0,1,1;", "ask t a", 0, work(3, A, A));
        givesAfter(3, "table t:1,0,0;", "ask t a", 2, work(5, A, -1), work(3, 0, A), work(4, 1, 1));
        SealedSums x = new SealedSums(13);
        // 2 * (x to the 12 + .. + x + 1) has all coefficients 2; at 1 it is 2 * 13, at all others 2.
        Due.read(x, "in a;table t:2,0,2,2,2,2,2,2,2,2,2,2,2;out ask t a;");
        DOC.is("the most works of an ask", x.works(0), 24);
        DOC.is("TIMES, 12 times PLUS, 11 times PRODUCT", x.cost(0, 0), 2 + 12 + 110);
        for (int v = 0; v < 13; v++) {
            DOC.is("openly", x.openly(0, 0, v), v == 1 ? 0 : 2);
        }
    }

    private static void tablesOfOpenOnes() {
        DOC.says("Terms", "ask T x: the polynomial over T");
        for (int t : PRIMES) {
            for (int v = 0; v < t; v++) {
                StringBuilder table = new StringBuilder("table t:");
                for (int i = 0; i < t; i++) {
                    table.append(i == 0 ? "" : ",").append(i * i + 3);
                }
                givesAfter(t, table + ";", "ask t " + v, open((v * v + 3) % t));
                givesAfter(t, table + ";", "ask t " + (v + t), open((v * v + 3) % t));
            }
        }
    }

    private static void allTablesOfThree() {
        DOC.says("Terms", "that has at each number the table's INT (its rest by T)");
        for (int n = 0; n < 27; n++) {
            int[] ints = {n % 3, n / 3 % 3, n / 9};
            SealedSums x = new SealedSums(3);
            DOC.is("read", Due.read(x, "in a;table t:" + ints[0] + "," + ints[1] + "," + ints[2] + ";out ask t a;"), 0);
            for (int v = 0; v < 3; v++) {
                DOC.is("table " + n + " at " + v, x.openly(0, 0, v), ints[v]);
            }
        }
        for (int n = 0; n < 4; n++) {
            SealedSums x = new SealedSums(2);
            Due.read(x, "in a;table t:" + n % 2 + "," + n / 2 + ";out ask t a;");
            DOC.is("table " + n + " at 0", x.openly(0, 0, 0), n % 2);
            DOC.is("table " + n + " at 1", x.openly(0, 0, 1), n / 2);
        }
    }

    private static void worksOf() {
        DOC.says("Promise 18", "How many WORKS a PROGRAM has; NONE: no such one.");
        SealedSums x = fourOf("out 1;", "in a;out a+1;", "in a;out a" + "*a".repeat(39) + ";", "in a;out a" + "*a".repeat(40) + ";");
        DOC.is("none", x.works(0), 0);
        DOC.is("one", x.works(1), 1);
        DOC.is("39", x.works(2), 39);
        DOC.is("40", x.works(3), 40);
        DOC.is("a fifth", x.works(4), -1);
        int[] none = {-1, 3, LEAST, MOST};
        for (int p : none) {
            DOC.refused("works(" + p + ")", Houses::small, y -> y.works(p), -1);
        }
        DOC.is("no program", new SealedSums(5).works(0), -1);
    }

    private static SealedSums fourOf(String... texts) {
        SealedSums x = new SealedSums(5);
        for (String text : texts) {
            DOC.is("read", Due.read(x, text), 0);
        }
        return x;
    }

    private static void stepsOf() {
        DOC.says("Promise 19", "Of its k-th WORK: what 0: 1 SUM, 2 LESS, 3 PRODUCT, 4 PLUS, 5 TIMES");
        SealedSums kinds = fourOf("in a;out a+a;out a-a;out a*a;out a*3+1;");
        int[] due0 = {1, 2, 3, 5, 4};
        for (int k = 0; k < 5; k++) {
            DOC.is("kind of " + k, kinds.step(0, k, 0), due0[k]);
        }
        DOC.says("Promise 19", "1, 2: of which it is, a WORK's number or -10 less an in's number (2 of PLUS, TIMES: k)");
        SealedSums x = new SealedSums(13);
        String ins = "in a;in b;in c;in d;in e;in f;";
        Due.read(x, ins + "out a+f;out f-a;out (a+12)*(f*7);");
        int[][] due = {{1, -10, -15}, {2, -15, -10}, {4, -10, 12}, {5, -15, -6}, {3, 2, 3}};
        for (int k = 0; k < due.length; k++) {
            for (int what = 0; what < 3; what++) {
                DOC.is("step(0, " + k + ", " + what + ")", x.step(0, k, what), due[k][what]);
            }
        }
        Due.read(x, "in a;out a" + "*a".repeat(40) + ";");
        DOC.is("the first", x.step(1, 0, 1), -10);
        DOC.is("the second", x.step(1, 1, 1), 0);
        DOC.is("the last", x.step(1, 39, 1), 38);
        DOC.is("the last", x.step(1, 39, 2), -10);
    }

    private static void noSteps() {
        DOC.says("Promise 19", "-100: no such ones.");
        int[] noProgram = {-1, 3, LEAST, MOST};
        for (int p : noProgram) {
            DOC.refused("program " + p, Houses::small, x -> x.step(p, 0, 0), -100);
        }
        int[] noWork = {-1, 2, 40, LEAST, MOST};
        for (int k : noWork) {
            DOC.refused("work " + k, Houses::small, x -> x.step(0, k, 0), -100);
        }
        int[] noWhat = {-1, 3, LEAST, MOST};
        for (int what : noWhat) {
            DOC.refused("what " + what, Houses::small, x -> x.step(0, 0, what), -100);
        }
        DOC.is("the last that is there", Houses.small().step(0, 1, 2), 1);
        DOC.is("without works", Houses.small().step(1, 0, 0), -100);
        DOC.is("no program", new SealedSums(5).step(0, 0, 0), -100);
    }

    private static void outsOf() {
        DOC.says("Promise 20", "a WORK, an in (-10 less its number), OPEN k (-30 less k)");
        for (int t = 2; t <= 13; t++) {
            SealedSums x = new SealedSums(t);
            Due.read(x, "in a;in b;in c;in d;in e;in f;out a;out f;out 0;out " + (t - 1) + ";");
            DOC.is("the first in", x.outs(0, 0), -10);
            DOC.is("the last in", x.outs(0, 1), -15);
            DOC.is("OPEN 0", x.outs(0, 2), -30);
            DOC.is("OPEN T - 1", x.outs(0, 3), -30 - (t - 1));
        }
        SealedSums y = new SealedSums(5);
        Due.read(y, "in a;let b=a*a;let c=b" + "*a".repeat(39) + ";out b;out c;");
        DOC.is("the first work", y.outs(0, 0), 0);
        DOC.is("the last work", y.outs(0, 1), 39);
    }

    private static void noOuts() {
        DOC.says("Promise 20", "-100: no such ones.");
        int[] noProgram = {-1, 3, LEAST, MOST};
        for (int p : noProgram) {
            DOC.refused("program " + p, Houses::small, x -> x.outs(p, 0), -100);
        }
        int[] noOut = {-1, 3, 4, LEAST, MOST};
        for (int k : noOut) {
            DOC.refused("out " + k, Houses::small, x -> x.outs(0, k), -100);
        }
        DOC.is("the last that is there", Houses.small().outs(0, 2), -33);
        DOC.is("without outs", Houses.small().outs(2, 0), -100);
        DOC.is("no program", new SealedSums(5).outs(0, 0), -100);
        SealedSums four = fourOf("out 1;out 2;out 3;out 4;");
        DOC.is("the fourth", four.outs(0, 3), -34);
        DOC.is("a fifth", four.outs(0, 4), -100);
    }

    private static void openlyOf() {
        DOC.says("Promise 26", "in i is the i-th digit of v to the base T, the first one the lowest");
        for (int t = 2; t <= 13; t++) {
            int power = t * t * t * t * t;
            SealedSums x = new SealedSums(t);
            Due.read(x, "in a;in b;in c;in d;in e;in f;out a;out b;out e;out f;");
            int v = 1 + (t - 1) * power;
            DOC.is("a", x.openly(0, 0, v), 1);
            DOC.is("b", x.openly(0, 1, v), 0);
            DOC.is("e", x.openly(0, 2, v), 0);
            DOC.is("f", x.openly(0, 3, v), t - 1);
            DOC.is("b of T", x.openly(0, 1, t), 1);
            DOC.is("a of T", x.openly(0, 0, t), 0);
            DOC.is("a of T - 1", x.openly(0, 0, t - 1), t - 1);
            for (int out = 0; out < 4; out++) {
                DOC.is("each of the last v", x.openly(0, out, power * t - 1), t - 1);
                DOC.is("each of 0", x.openly(0, out, 0), 0);
            }
        }
        DOC.says("Promise 26", "An out of a PROGRAM worked out openly with plain ins");
        SealedSums x = new SealedSums(13);
        Due.read(x, "in a;out 0-a;out a*a;out 5-a*12;out 7;");
        for (int v = 0; v < 13; v++) {
            DOC.is("0 - a", x.openly(0, 0, v), (13 - v) % 13);
            DOC.is("a * a", x.openly(0, 1, v), v * v % 13);
            DOC.is("5 - a * 12", x.openly(0, 2, v), (5 + v) % 13);
            DOC.is("7", x.openly(0, 3, v), 7);
        }
    }

    private static void openlyRange() {
        DOC.says("Promise 26", "NONE: no such ones (v 0 .. T to the number of ins, less 1).");
        for (int t = 2; t <= 13; t++) {
            int end = 1;
            for (int ins = 0; ins <= 6; ins++) {
                SealedSums x = new SealedSums(t);
                Due.read(x, "in a;in b;in c;in d;in e;in f;".substring(0, 5 * ins) + "out 1;");
                String name = "T " + t + ", " + ins + " ins: ";
                DOC.is(name + "0", x.openly(0, 0, 0), 1);
                DOC.is(name + "the last", x.openly(0, 0, end - 1), 1);
                DOC.is(name + "behind it", x.openly(0, 0, end), -1);
                DOC.is(name + "-1", x.openly(0, 0, -1), -1);
                DOC.is(name + "the least", x.openly(0, 0, LEAST), -1);
                DOC.is(name + "the most", x.openly(0, 0, MOST), -1);
                end *= t;
            }
        }
    }

    private static void refusedOpenly() {
        DOC.says("Promise 26", "NONE: no such ones");
        int[] noProgram = {-1, 3, LEAST, MOST};
        for (int p : noProgram) {
            DOC.refused("program " + p, Houses::small, x -> x.openly(p, 0, 0), -1);
        }
        int[] noOut = {-1, 3, LEAST, MOST};
        for (int out : noOut) {
            DOC.refused("out " + out, Houses::small, x -> x.openly(0, out, 0), -1);
        }
        int[] noV = {-1, 25, LEAST, MOST};
        for (int v : noV) {
            DOC.refused("v " + v, Houses::small, x -> x.openly(0, 0, v), -1);
        }
        DOC.is("the last of all", Houses.small().openly(0, 2, 24), 3);
        DOC.is("without outs", Houses.small().openly(2, 0, 0), -1);
        DOC.is("no program", new SealedSums(5).openly(0, 0, 0), -1);
    }

    private static void differences() {
        DOC.says("Promise 27", "At how many v two PROGRAMS with as many ins (4 at most) and outs differ in some out");
        SealedSums x = fourOf("in a;in b;out a;out b;", "in a;in b;out a;out b+1;", "in a;in b;out a+1;out b;", "in a;in b;out a*a;out b;");
        DOC.is("one and itself", x.differ(0, 0), 0);
        DOC.is("in the last out alone, everywhere", x.differ(0, 1), 25);
        DOC.is("in the first out alone, everywhere", x.differ(0, 2), 25);
        DOC.is("in both", x.differ(1, 2), 25);
        // a * a is a at 0 and 1.
        DOC.is("at some", x.differ(0, 3), 15);
        DOC.is("at some, the other way", x.differ(3, 0), 15);
        SealedSums y = fourOf("in a;out a;", "in b;out b;", "in a;out a+0*a;", "in a;out choose a 1 0;");
        for (int one = 0; one < 4; one++) {
            for (int other = 0; other < 4; other++) {
                DOC.is("alike", y.differ(one, other), 0);
            }
        }
        SealedSums ask = fourOf("in a;table t:1,0,0,0,0;out ask t a;", "in a;out 0;", "in a;out 1;");
        DOC.is("at 0 alone", ask.differ(0, 1), 1);
        DOC.is("at all but 0", ask.differ(0, 2), 4);
    }

    private static void differencesOfInsAndOuts() {
        DOC.says("Promise 27", "with as many ins (4 at most) and outs");
        String ins = "in a;in b;in c;in d;in e;in f;";
        for (int t = 2; t <= 13; t++) {
            int all = 1;
            for (int n = 0; n <= 6; n++) {
                SealedSums x = new SealedSums(t);
                Due.read(x, ins.substring(0, 5 * n) + "out 0;");
                Due.read(x, ins.substring(0, 5 * n) + "out 1;");
                DOC.is("T " + t + ", " + n + " ins", x.differ(0, 1), n <= 4 ? all : -1);
                all *= t;
            }
        }
        SealedSums x = fourOf("in a;out a;", "in a;in b;out a;", "in a;out a;out a;", "in a;");
        DOC.is("one in more", x.differ(0, 1), -1);
        DOC.is("one in fewer", x.differ(1, 0), -1);
        DOC.is("one out more", x.differ(0, 2), -1);
        DOC.is("one out fewer", x.differ(0, 3), -1);
        DOC.is("without outs", x.differ(3, 3), 0);
        SealedSums none = fourOf("", "", "out 1;out 2;out 3;out 4;", "out 1;out 2;out 3;out 3;");
        DOC.is("without anything", none.differ(0, 1), 0);
        DOC.is("without ins, in the fourth out", none.differ(2, 3), 1);
        DOC.is("none and four outs", none.differ(0, 2), -1);
    }

    private static void refusedDifferences() {
        DOC.says("Promise 27", "NONE: no such ones.");
        int[] noProgram = {-1, 3, LEAST, MOST};
        for (int p : noProgram) {
            DOC.refused("the first " + p, Houses::small, x -> x.differ(p, 0), -1);
            DOC.refused("the second " + p, Houses::small, x -> x.differ(0, p), -1);
        }
        DOC.refused("other ins", Houses::small, x -> x.differ(0, 2), -1);
        DOC.is("no program", new SealedSums(5).differ(0, 0), -1);
        SealedSums x = new SealedSums(5);
        Due.read(x, "in a;out a;");
        DOC.is("not yet there", x.differ(0, 1), -1);
        Due.read(x, "in a;out a+1;");
        DOC.is("there now", x.differ(0, 1), 5);
    }

    /** These calls ask alone: what they work out in between is no part of what a house holds. */
    private static void askingChangesNothing() {
        DOC.says("Promise 26", "worked out openly");
        DOC.refused("openly", Houses::small, x -> x.openly(0, 0, 24), 2);
        DOC.says("Promise 27", "differ in some out");
        DOC.refused("differ", Houses::small, x -> x.differ(0, 0), 0);
        DOC.says("Promise 19", "Of its k-th WORK: what 0: 1 SUM, 2 LESS, 3 PRODUCT, 4 PLUS, 5 TIMES");
        DOC.refused("step", Houses::small, x -> x.step(0, 1, 1), 0);
        DOC.says("Promise 20", "What an out of a PROGRAM is");
        DOC.refused("outs", Houses::small, x -> x.outs(0, 1), -11);
    }
}
