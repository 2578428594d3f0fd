/** Promises 2 to 5 and 18 to 27: the tape, faults, programs, layings, runs. */
public final class ProgramPromisesTest {
    private static final Due DUE = new Due();
    private static final int LEAST = Integer.MIN_VALUE;

    public static void main(String[] args) {
        promise2();
        promise3();
        promise4();
        syntaxFaults();
        roomFaults();
        nameFaults();
        namesThatAreNearWords();
        workFaults();
        textsAfterFaults();
        promise18();
        promise19();
        promise20();
        promise21();
        promise22();
        promise23();
        promise24();
        promise25();
        promise26();
        promise27();
        eachProgramItsOwn();
        DUE.end();
    }

    private static void promise2() {
        DUE.topic("promise 2");
        SealedSums x = new SealedSums(5);
        for (int i = 1; i <= 100; i++) {
            DUE.is("feed", x.feed(0x20202020, 0, 0, 0, 0), 20 * i);
        }
        DUE.is("too much", x.feed(0, 0, 0, 0, 0), -1);
        DUE.is("back", x.back(19), 1981);
        DUE.is("one too much", x.feed(0, 0, 0, 0, 0), -1);
        DUE.is("nothing came", x.count(3), 1981);
        DUE.is("back", x.back(1), 1980);
        DUE.is("just enough", x.feed(0, 0, 0, 0, 0), 2000);
        // The highest byte of a is the first: 'in a' stands in one int.
        SealedSums y = new SealedSums(5);
        y.feed(0x696e2061, 0x3b6f7574, 0x20613b20, 0x20202020, 0x20202020);
        DUE.is("read", y.read(), 0);
        DUE.is("ins", y.count(10), 1);
        DUE.is("outs", y.count(20), 1);
    }

    private static void promise3() {
        DUE.topic("promise 3");
        SealedSums x = new SealedSums(5);
        DUE.is("0 of none", x.back(0), 0);
        DUE.is("1 of none", x.back(1), -1);
        x.feed(0, 0, 0, 0, 0);
        DUE.is("-1", x.back(-1), -1);
        DUE.is("least", x.back(LEAST), -1);
        DUE.is("21", x.back(21), -1);
        DUE.is("7", x.back(7), 13);
        DUE.is("14", x.back(14), -1);
        DUE.is("13", x.back(13), 0);
    }

    private static void promise4() {
        DUE.topic("promises 4 and 5");
        SealedSums x = new SealedSums(5);
        DUE.is("place at first", x.place(), -1);
        DUE.is("a fault", Due.read(x, "out;"), 1);
        DUE.is("its place", x.place(), 3);
        DUE.is("the tape is empty", x.count(3), 0);
        DUE.is("no program", x.count(2), 0);
        DUE.is("an empty text", x.read(), 0);
        DUE.is("no place", x.place(), -1);
        DUE.is("blanks", Due.read(x, " \t\r\n "), 0);
        DUE.is("no ins", x.count(11), 0);
        DUE.is("a text", Due.read(x, "in a;"), 0);
        DUE.is("a fault", Due.read(x, "in a;in"), 1);
        DUE.is("its place", x.place(), 7);
        DUE.is("the fourth", Due.read(x, "in a;in b;"), 0);
        Due.feed(x, "in");
        DUE.is("a fifth", x.read(), -2);
        DUE.is("the tape stays", x.count(3), 2);
        DUE.is("place", x.place(), -1);
        DUE.is("programs", x.count(2), 4);
    }

    private static void fault(int t, String text, int number, int place) {
        SealedSums x = new SealedSums(t);
        DUE.is("read() of " + text, Due.read(x, text), number);
        DUE.is("place() of " + text, x.place(), place);
        DUE.is("programs", x.count(2), number == 0 ? 1 : 0);
    }

    private static void syntaxFaults() {
        DUE.topic("SYNTAX");
        fault(5, "in a", 1, 4);
        fault(5, "in a  ", 1, 6);
        fault(5, "in a a;", 1, 5);
        fault(5, "in in;", 1, 3);
        fault(5, "a", 1, 0);
        fault(5, ";", 1, 0);
        fault(5, "in abcdefgh;", 0, -1);
        fault(5, "in abcdefghi;", 1, 3);
        fault(5, "ina;", 1, 0);
        fault(5, "in let;", 1, 3);
        fault(5, "in letx;", 0, -1);
        fault(5, "in a1;", 1, 4);
        fault(5, "in A;", 1, 3);
        fault(5, "in \u00e9;", 1, 3);
        fault(5, "\u0000", 1, 0);
        fault(5, "in a;.", 1, 5);
        fault(5, "out 9999;", 0, -1);
        fault(5, "out 0000;", 0, -1);
        fault(5, "out 00000;", 1, 4);
        fault(5, "out12;", 0, -1);
        fault(5, "out 1 2;", 1, 6);
        fault(5, "out 1+;", 1, 6);
        fault(5, "out -1;", 1, 4);
        fault(5, "out (1;", 1, 6);
        fault(5, "out 1);", 1, 5);
        fault(5, "out ();", 1, 5);
        fault(5, "out choose 1 2;", 1, 14);
        fault(5, "out choose 1 2 3 4;", 1, 17);
        fault(5, "out choose 1 2 3*4;", 0, -1);
        fault(5, "out ask 1 2;", 1, 8);
        fault(5, "let a 1;", 1, 6);
        fault(5, "let a=1", 1, 7);
        fault(5, "table t 1;", 1, 8);
        fault(5, "table t:;", 1, 8);
        fault(5, "table t:1,;", 1, 10);
        fault(5, "table t:1 2;", 1, 10);
        fault(5, "table t:a;", 1, 8);
        fault(5, "in\ta\r;\nout\ra\n;", 0, -1);
        fault(5, "in\u000ba;", 1, 2);
    }

    private static String times(String text, int n) {
        StringBuilder all = new StringBuilder();
        for (int i = 0; i < n; i++) {
            all.append(text);
        }
        return all.toString();
    }

    private static void roomFaults() {
        DUE.topic("ROOM");
        fault(5, "in a;in b;in c;in d;in e;in f;", 0, -1);
        fault(5, "in a;in b;in c;in d;in e;in f;in g;", 2, 30);
        fault(5, "in a;in b;in c;in d;in e;in f; in", 2, 31);
        fault(2, times("table t:0,1;", 4) + "table", 2, 48);
        fault(5, times("out 1;", 4), 0, -1);
        fault(5, times("out 1;", 5), 2, 24);
        fault(5, "out " + times("(", 6) + "1" + times(")", 6) + ";", 0, -1);
        fault(5, "out " + times("(", 7), 2, 10);
        fault(5, "out " + times("(", 6), 1, 10);
        fault(5, "out " + times("(1+", 5) + "(1)+(2)" + times(")", 5) + ";", 0, -1);
        fault(5, "out " + times("choose ", 6) + times("1 ", 13) + ";", 0, -1);
        fault(5, "out " + times("choose ", 7), 2, 46);
        fault(5, "out " + times("choose 1 2 ", 6) + "(", 2, 70);
        fault(2, "table t:0,1;out " + times("ask t ", 6) + "1;", 0, -1);
        fault(2, "table t:0,1;out " + times("ask t ", 7), 2, 52);
        fault(2, "table t:0,1;out " + times("ask t 1+", 9) + "1;", 0, -1);
        fault(5, "out choose (1) (2) (3)*choose 1 2 (3);", 0, -1);
        fault(5, "let a=" + times("(", 6) + "1" + times(")", 6) + ";", 0, -1);
        fault(5, "let a=" + times("(", 7), 2, 12);
        fault(5, "out choose 1 " + times("(", 5) + "1" + times(")", 5) + " 1;", 0, -1);
        fault(5, "out choose 1 " + times("(", 6), 2, 18);
        fault(5, "out choose 1 1 " + times("(", 5) + "1" + times(")", 5) + ";", 0, -1);
        fault(5, "out choose 1 1 " + times("(", 6), 2, 20);
        fault(5, "out choose " + times("(", 6), 2, 16);
        // 148 times '*1' make 301 TOKENS with the sign at the end, 147 times 299.
        fault(5, "let a=1" + times("*1", 147) + ";", 0, -1);
        fault(5, "let a=1" + times("*1", 148) + ";", 2, 303);
        // The 301st TOKEN is SYNTAX where no text goes on with it, or where it is none.
        String long300 = "out 1" + times("*1", 148) + "*(";
        fault(5, long300, 1, 303);
        fault(5, long300 + "(", 2, 303);
        fault(5, long300 + ";", 1, 303);
        fault(5, long300 + "abcdefghi", 1, 303);
        String whole300 = "out choose 1 1 1" + times("*1", 147) + "; ";
        fault(5, whole300, 0, -1);
        fault(5, whole300 + "in", 2, 312);
        fault(5, whole300 + "1", 1, 312);
    }

    private static void nameFaults() {
        DUE.topic("TWICE, NAME, WRONG");
        fault(5, "in a;in a;", 3, 8);
        fault(5, "in a;let a=1;", 3, 9);
        fault(5, "let a=1;let a=1;", 3, 12);
        fault(2, "let a=1;table a:0,1;", 3, 14);
        fault(2, "let a=1;table a:0;", 3, 14);
        fault(2, "table a:0,1;in a;", 3, 15);
        fault(5, "in a;let a=b;", 3, 9);
        fault(5, "out a;", 4, 4);
        fault(5, "out a;in a;", 4, 4);
        fault(5, "let a=a;", 4, 6);
        fault(5, "let a=1+a;let a=2;", 4, 8);
        fault(2, "table a:0,1;out a;", 4, 16);
        fault(2, "table a:0,1;out ask a 1;", 0, -1);
        fault(2, "in a;out ask a a;", 4, 13);
        fault(2, "out ask b c;", 4, 8);
        fault(5, "out ask a 1;table a:0,1,2,3,4;", 4, 8);
        fault(5, "table a:0,1,2,3;", 5, 6);
        fault(5, "table a:0,1,2,3,4,5;", 5, 6);
        fault(5, "table a:0,1,2,3,4;", 0, -1);
        fault(4, "table a:0,1,2,3;", 5, 6);
        fault(6, "table a:0,1,2,3,4,5;", 5, 6);
        fault(9, "in a;table a:0;", 3, 11);
        fault(13, "table a:0,1,2,3,4,5,6,7,8,9,10,11,12;", 0, -1);
        fault(12, "table a:0,1,2,3,4,5,6,7,8,9,10,11;", 5, 6);
        // A fault of form comes ahead of one of names, wherever it stands.
        fault(5, "out a;out", 1, 9);
        fault(5, "out a;" + times("out 1;", 4), 2, 24);
        fault(5, "out x;table t:1;", 4, 4);
        fault(5, "table t:1;out x;", 5, 6);
    }

    private static void namesThatAreNearWords() {
        DUE.topic("NAMES");
        String[] names = {"an", "cable", "bet", "but", "xhoose", "bsk", "i", "n", "inn", "tables", "tabl", "le", "ou",
            "chooser", "as", "asks", "a", "b", "c", "aa", "ab", "ba", "bb", "bc", "aaaaaaaa", "aaaaaaab", "baaaaaaa",
            "zzzzzzzz", "zzzzzzz"};
        StringBuilder text = new StringBuilder();
        for (int i = 0; i < names.length; i++) {
            text.append("let ").append(names[i]).append("=").append(i).append(";");
        }
        for (int i = 0; i < names.length; i++) {
            SealedSums x = new SealedSums(13);
            DUE.is("read", Due.read(x, text + "out " + names[i] + ";"), 0);
            DUE.is("out " + names[i], x.outs(0, 0), -30 - i % 13);
        }
        String[] words = {"in", "table", "let", "out", "choose", "ask"};
        for (String word : words) {
            fault(5, "in " + word + ";", 1, 3);
        }
    }

    /** A text that was refused leaves nothing behind: not its names, works, outs, tables, nor its place. */
    private static void textsAfterFaults() {
        DUE.topic("after a FAULT");
        SealedSums x = new SealedSums(5);
        DUE.is("WORKS", Due.read(x, "in a;out a;out a" + times("+a", 41) + ";"), 6);
        DUE.is("place", x.place(), 11);
        DUE.is("read", Due.read(x, "in b;out b+1;"), 0);
        DUE.is("place", x.place(), -1);
        DUE.is("works", x.works(0), 1);
        DUE.is("outs", x.count(20), 1);
        DUE.is("out", x.outs(0, 0), 0);
        DUE.is("b is told no more", Due.read(x, "out b;"), 4);
        DUE.is("place", x.place(), 4);
        DUE.is("read", Due.read(x, "in b;out b;"), 0);
        DUE.is("place", x.place(), -1);
        DUE.is("four tables", Due.read(x, "table a:0,1,2,3,4;table b:0,1,2,3,4;table c:0,1,2,3,4;table d:0,1,2,3,4;"), 0);
        DUE.is("a table", Due.read(x, "table a:0,1,2,3,4;out a;"), 4);
        DUE.is("place", x.place(), 22);
        DUE.is("a let ahead of all", Due.read(x, "let k=3;in a;out a+k;"), 0);
        DUE.is("plus 3", x.step(3, 0, 2), 3);
    }

    private static void workFaults() {
        DUE.topic("WORKS");
        String forty = "in a;let b=a" + times("+a", 40) + ";";
        fault(5, forty, 0, -1);
        fault(5, "in a;let b=a" + times("+a", 41) + ";", 6, 5);
        fault(5, forty + "out a;out 1+1;out b;", 0, -1);
        fault(5, forty + "out a; out a+1;out a+1;", 6, forty.length() + 7);
        fault(5, forty + "out a+1;out z;", 4, forty.length() + 12);
        fullProgram(forty);
        // An ask over 13 makes 24 works at most: here the second one goes beyond 40.
        String table = "table t:5,7,1,0,4,9,2,2,8,11,3,6,1;";
        SealedSums x = new SealedSums(13);
        DUE.is("one ask", Due.read(x, "in a;" + table + "out ask t a;"), 0);
        int works = x.works(0);
        DUE.is("about 24 works", works > 20 && works < 25, true);
        fault(13, "in a;" + table + "out ask t a;out ask t a;", 6, 5 + table.length() + 12);
    }

    /** b is a + a + .., 41 times. */
    private static void fullProgram(String forty) {
        SealedSums x = new SealedSums(5);
        x.key(9973, 10, 0);
        x.mask(0, 3, 1);
        x.given(0, 0);
        DUE.is("read", Due.read(x, forty + "out b;out 2;out a;out b;"), 0);
        DUE.is("works", x.works(0), 40);
        DUE.is("the last", x.step(0, 39, 1), 38);
        DUE.is("behind it", x.step(0, 40, 0), -100);
        DUE.is("cost", x.cost(0, 0), 40);
        DUE.is("holds", x.holds(0, 0, 0), 1);
        DUE.is("run", x.run(0, 0, 1), 1);
        DUE.is("open", x.open(1), 41 * 3 % 5);
        DUE.is("bound", Due.sealed(x, 4, 2), 41 * 4);
        for (int v = 0; v < 5; v++) {
            DUE.is("openly", x.openly(0, 0, v), 41 * v % 5);
        }
        DUE.is("differ", x.differ(0, 0), 0);
    }

    private static void promise18() {
        DUE.topic("promise 18");
        SealedSums x = new SealedSums(5);
        DUE.is("none", x.works(0), -1);
        Due.read(x, "in a;in b;let c=a*b+1;out 2-c;");
        DUE.is("works", x.works(0), 4);
        DUE.is("-1", x.works(-1), -1);
        DUE.is("1", x.works(1), -1);
        Due.read(x, "in a;out a*0*a+a*1+0-0+5;");
        DUE.is("no works", x.works(1), 0);
    }

    private static void steps(int t, String text, int[]... works) {
        SealedSums x = new SealedSums(t);
        DUE.is("read() of " + text, Due.read(x, text), 0);
        DUE.is("works() of " + text, x.works(0), works.length);
        for (int k = 0; k < works.length; k++) {
            for (int what = 0; what < 3; what++) {
                DUE.is(text + " step(0, " + k + ", " + what + ")", x.step(0, k, what), works[k][what]);
            }
        }
        DUE.is("behind the last", x.step(0, works.length, 0), -100);
    }

    private static int[] work(int kind, int a, int b) {
        return new int[] {kind, a, b};
    }

    private static void promise19() {
        DUE.topic("promise 19");
        String ins = "in a;in b;in c;";
        steps(5, ins + "out a+b;", work(1, -10, -11));
        steps(5, ins + "out a-b;", work(2, -10, -11));
        steps(5, ins + "out a*c;", work(3, -10, -12));
        steps(5, ins + "out a+2;", work(4, -10, 2));
        steps(5, ins + "out 7+a;", work(4, -10, 2));
        steps(5, ins + "out a-2;", work(4, -10, 3));
        steps(5, ins + "out 2-a;", work(5, -10, -1), work(4, 0, 2));
        steps(5, ins + "out 0-a;", work(5, -10, -1));
        steps(2, ins + "out 0-a;", work(5, -10, -1));
        steps(5, ins + "out a*2;", work(5, -10, 2));
        steps(5, ins + "out 3*a;", work(5, -10, -2));
        steps(4, ins + "out a*2;", work(5, -10, 2));
        steps(6, ins + "out a*3;", work(5, -10, 3));
        steps(6, ins + "out a*4;", work(5, -10, -2));
        steps(13, ins + "out a*7;", work(5, -10, -6));
        steps(13, ins + "out a*6;", work(5, -10, 6));
        steps(5, ins + "out a+b*c;", work(3, -11, -12), work(1, -10, 0));
        steps(5, ins + "out a-b-c;", work(2, -10, -11), work(2, 0, -12));
        steps(5, ins + "out a-(b-c);", work(2, -11, -12), work(2, -10, 0));
        steps(5, ins + "out a+b+a*b;", work(1, -10, -11), work(3, -10, -11), work(1, 0, 1));
        steps(5, ins + "out choose a b c;", work(2, -11, -12), work(3, -10, 0), work(1, 1, -12));
        steps(5, ins + "out choose (a+1) (b+2) (c+3);", work(4, -10, 1), work(4, -11, 2), work(4, -12, 3),
            work(2, 1, 2), work(3, 0, 3), work(1, 4, 2));
        steps(5, ins + "out choose 0 a b;", work(2, -10, -11));
        steps(5, ins + "out choose 1 a b;", work(2, -10, -11), work(1, 0, -11));
        steps(5, ins + "out choose a 4 2;", work(5, -10, 2), work(4, 0, 2));
        steps(5, ins + "out choose a 2 2;");
        steps(5, ins + "out choose a b 0;", work(3, -10, -11));
        steps(5, "in a;table t:0,1,4,9,16;out ask t a;", work(3, -10, -10));
        steps(5, "in a;table t:3,3,3,3,3;out ask t a;");
        steps(5, "in a;table t:2,3,4,0,1;out ask t a;", work(4, -10, 2));
        steps(5, "in a;table t:1,3,0,2,4;out ask t a;", work(5, -10, 2), work(4, 0, 1));
        steps(3, "in a;table t:0,2,2;out ask t a;", work(5, -10, -1), work(3, 0, -10));
        steps(2, "in a;table t:1,0;out ask t(a*a);", work(3, -10, -10), work(4, 0, 1));
        steps(5, "table t:0,1,4,9,16;let x=3;out ask t x;");
        SealedSums x = new SealedSums(5);
        Due.read(x, ins + "out a+2;");
        DUE.is("program 1", x.step(1, 0, 0), -100);
        DUE.is("program -1", x.step(-1, 0, 0), -100);
        DUE.is("work -1", x.step(0, -1, 0), -100);
        DUE.is("what 3", x.step(0, 0, 3), -100);
        DUE.is("what -1", x.step(0, 0, -1), -100);
    }

    private static void promise20() {
        DUE.topic("promise 20");
        SealedSums x = new SealedSums(13);
        DUE.is("none", x.outs(0, 0), -100);
        Due.read(x, "in a;in b;let c=a+b;out c;out b;out 12;out 13+a-a*1*0;");
        DUE.is("a work", x.outs(0, 0), 0);
        DUE.is("an in", x.outs(0, 1), -11);
        DUE.is("open", x.outs(0, 2), -42);
        DUE.is("an in", x.outs(0, 3), -10);
        DUE.is("4", x.outs(0, 4), -100);
        DUE.is("-1", x.outs(0, -1), -100);
        DUE.is("program 1", x.outs(1, 0), -100);
        DUE.is("program -1", x.outs(-1, 0), -100);
    }

    private static void promise21() {
        DUE.topic("promise 21");
        SealedSums x = new SealedSums(5);
        DUE.is("none", x.cost(0, 0), -1);
        Due.read(x, "in a;in b;out a+b;out a-b;out a*b;out 2-a*2;");
        // SUM 1, LESS 1, PRODUCT 10, TIMES 2, TIMES 2, PLUS 1
        DUE.is("cost", x.cost(0, 0), 17);
        DUE.is("cost", x.cost(0, 63), 17 + 150);
        DUE.is("cost", x.cost(0, 32), 17 + 25);
        DUE.is("a work too far", x.cost(0, 64), -1);
        DUE.is("-1", x.cost(0, -1), -1);
        DUE.is("least", x.cost(0, LEAST), -1);
        Due.read(x, "in a;out a" + times("+a", 13) + ";");
        DUE.is("twelve", x.cost(1, 4095), 13 + 300);
        DUE.is("a thirteenth", x.cost(1, 4096), -1);
        Due.read(x, "in a;out a;");
        DUE.is("no works", x.cost(2, 0), 0);
        DUE.is("no works", x.cost(2, 1), -1);
        DUE.is("program 3", x.cost(3, 0), -1);
    }

    private static void promise22() {
        DUE.topic("promise 22");
        SealedSums x = new SealedSums(5);
        x.key(101, 10, 0);
        x.key(103, 10, 10);
        x.key(101, 10, 9);
        Due.read(x, "in a;let b=a*a;let c=b*a;out c;");
        // Bounds 4, 16, 64: twice 64 is 101 or more.
        DUE.is("drowns", x.holds(0, 0, 0), 0);
        DUE.is("holds", x.holds(0, 0, 1), 1);
        DUE.is("too late", x.holds(0, 0, 2), 0);
        DUE.is("no work", x.holds(0, 0, 4), -1);
        DUE.is("-1", x.holds(0, 0, -1), -1);
        DUE.is("no key", x.holds(0, 3, 0), -1);
        DUE.is("no key", x.holds(0, -1, 0), -1);
        DUE.is("no program", x.holds(1, 0, 0), -1);
        Due.read(x, "in a;out 1;");
        // 54 drowns under 103; 49 does not under 101.
        DUE.is("an in drowns", x.holds(1, 1, 0), 0);
        DUE.is("an in holds", x.holds(1, 2, 0), 1);
        Due.read(x, "out 1;");
        DUE.is("no in", x.holds(2, 1, 0), 1);
        Due.read(x, "in a;out a+1;out a+2;");
        DUE.is("50 holds, 51 does not", x.holds(3, 2, 0), 0);
        DUE.is("made anew too late", x.holds(3, 2, 3), 0);
        x.dead(0);
        DUE.is("a dead key", x.holds(0, 0, 1), 1);
    }

    private static void promise23() {
        DUE.topic("promise 23");
        SealedSums x = new SealedSums(5);
        x.key(101, 10, 0);
        x.key(103, 10, 10);
        DUE.is("none", x.best(0, 0), -1);
        // Bounds 4, 16, 64, 256: b and c each must be made anew, or it drowns.
        Due.read(x, "in a;let b=a*a;let c=b*a;let d=c*a;out d;");
        DUE.is("best", x.best(0, 0), 3);
        DUE.is("none holds", x.best(0, 1), -2);
        // 4 + 4 + .. : at 52 it drowns; one made anew is enough, and the least such is told.
        Due.read(x, "in a;out a" + times("+a", 12) + ";");
        DUE.is("best", x.best(1, 0), 1);
        Due.read(x, "in a;out a" + times("+a", 13) + ";");
        DUE.is("13 works", x.best(2, 0), -1);
        SealedSums y = new SealedSums(5);
        y.key(101, 10, 0);
        Due.read(y, "in a;out a" + times("*a", 12) + ";");
        DUE.is("all but the last", y.best(0, 0), 2047);
        Due.read(x, "in a;out 1;");
        DUE.is("no works", x.best(3, 0), 0);
        DUE.is("no works", x.best(3, 1), -2);
        DUE.is("no key", x.best(0, 2), -1);
        DUE.is("no program", x.best(4, 0), -1);
        x.dead(0);
        DUE.is("a dead key", x.best(0, 0), 3);
    }

    private static void promise24() {
        DUE.topic("promise 24");
        SealedSums x = new SealedSums(5);
        DUE.is("no sealed one", x.given(0, 0), false);
        x.key(101, 10, 0);
        x.mask(0, 1, 1);
        DUE.is("in 0", x.given(0, 0), true);
        DUE.is("in 5", x.given(5, 0), true);
        DUE.is("in 6", x.given(6, 0), false);
        DUE.is("in -1", x.given(-1, 0), false);
        DUE.is("sealed 1", x.given(0, 1), false);
        DUE.is("sealed -1", x.given(0, -1), false);
        x.dead(0);
        DUE.is("of a dead key", x.given(1, 0), true);
    }

    private static void promise25() {
        DUE.topic("promise 25");
        SealedSums x = new SealedSums(5);
        x.key(101, 10, 0);
        x.key(1009, 100, 2);
        x.mask(0, 3, 1);
        x.mask(1, 4, 2);
        x.mask(1, 2, 3);
        Due.read(x, "in a;in b;let c=a*b;out c+1;out b;out 3;out c;");
        Due.read(x, "out 1;");
        Due.read(x, "in a;let b=a*a*a;");
        DUE.is("not given", x.run(0, 0, 5), -1);
        DUE.is("not given", x.run(2, 0, 5), -1);
        x.given(0, 1);
        DUE.is("one not given", x.run(0, 0, 5), -1);
        x.given(1, 0);
        DUE.is("of two keys", x.run(0, 0, 5), -1);
        x.given(1, 2);
        DUE.is("no in", x.run(1, 0, 5), -1);
        DUE.is("no program", x.run(3, 0, 5), -1);
        DUE.is("no laying", x.run(0, 4, 5), -1);
        DUE.is("no laying", x.run(0, -1, 5), -1);
        DUE.is("count", x.count(1), 3);
        DUE.is("run", x.run(0, 0, 5), 3);
        int[] opens = {4, 2, 3, 3};
        for (int i = 0; i < 4; i++) {
            DUE.is("open", x.open(3 + i), opens[i]);
            DUE.is("kind", Due.sealed(x, 3 + i, 4), 7);
            DUE.is("key", Due.sealed(x, 3 + i, 0), 1);
        }
        DUE.is("an in as it is", Due.sealed(x, 4, 1), Due.sealed(x, 2, 1));
        DUE.is("its bound", Due.sealed(x, 4, 2), 14);
        DUE.is("bound", Due.sealed(x, 3, 2), 14 * 14 + 1);
        x.mask(1, 3, 5 + 1000 + 2);
        DUE.is("an open one", Due.sealed(x, 5, 1), Due.sealed(x, 7, 1));
        x.work(2, 1, 2);
        DUE.is("a work as it is", Due.sealed(x, 6, 1), Due.sealed(x, 8, 1));
        DUE.is("run", x.run(0, 3, 5), 9);
        x.anew(6, 1, 5);
        DUE.is("made anew by the seed", Due.sealed(x, 12, 1), Due.sealed(x, 13, 1));
        x.mask(1, 4, 15);
        DUE.is("the next by 10 more", Due.sealed(x, 9, 1), Due.sealed(x, 14, 1));
        DUE.is("bound", Due.sealed(x, 9, 2), 14);
        DUE.is("without outs", x.run(2, 0, 5), 15);
        DUE.is("one drowned", x.run(2, 2, 5), -2);
        DUE.is("made anew in time", x.run(2, 3, 5), 15);
        DUE.is("count", x.count(1), 15);
        while (x.count(1) < 56) {
            x.mask(1, 0, 0);
        }
        DUE.is("just 60", x.run(0, 0, 5), 56);
        DUE.is("more than 60", x.run(0, 0, 5), -1);
        DUE.is("count", x.count(1), 60);
        DUE.is("without outs", x.run(2, 0, 5), 60);
        x.dead(1);
        DUE.is("a dead key", x.run(2, 0, 5), -1);
        DUE.is("a dead key, one drowned", x.run(2, 2, 5), -1);
    }

    private static void promise26() {
        DUE.topic("promise 26");
        SealedSums x = new SealedSums(7);
        Due.read(x, "in a;in b;table t:3,0,6,6,1,9999,5;let c=ask t a;out c;out a-2*b;out choose a b 5;out 8;");
        int[] table = {3, 0, 6, 6, 1, 9999 % 7, 5};
        for (int v = 0; v < 49; v++) {
            int a = v % 7;
            int b = v / 7;
            DUE.is("ask", x.openly(0, 0, v), table[a]);
            DUE.is("a - 2 * b", x.openly(0, 1, v), Math.floorMod(a - 2 * b, 7));
            DUE.is("choose", x.openly(0, 2, v), Math.floorMod(a * (b - 5) + 5, 7));
            DUE.is("open", x.openly(0, 3, v), 1);
        }
        DUE.is("49", x.openly(0, 0, 49), -1);
        DUE.is("-1", x.openly(0, 0, -1), -1);
        DUE.is("out 4", x.openly(0, 4, 0), -1);
        DUE.is("out -1", x.openly(0, -1, 0), -1);
        DUE.is("program 1", x.openly(1, 0, 0), -1);
        Due.read(x, "out 9;");
        DUE.is("no ins", x.openly(1, 0, 0), 2);
        DUE.is("no ins", x.openly(1, 0, 1), -1);
        SealedSums y = new SealedSums(13);
        Due.read(y, "in a;in b;in c;in d;in e;in f;out f;");
        DUE.is("the last in", y.openly(0, 0, 4826808), 12);
        DUE.is("too many", y.openly(0, 0, 4826809), -1);
        allTables();
    }

    /** Each table's polynomial gives the table again, for all T that have tables. */
    private static void allTables() {
        int[] primes = {2, 3, 5, 7, 11, 13};
        for (int t : primes) {
            for (int seed = 0; seed < 40; seed++) {
                SealedSums x = new SealedSums(t);
                int[] ints = new int[t];
                StringBuilder text = new StringBuilder("in a;table t:");
                for (int i = 0; i < t; i++) {
                    ints[i] = x.lot(seed, i, 10000);
                    text.append(i == 0 ? "" : ",").append(ints[i]);
                }
                DUE.is("read", Due.read(x, text + ";out ask t a;out ask t 1;"), 0);
                for (int v = 0; v < t; v++) {
                    DUE.is("ask", x.openly(0, 0, v), ints[v] % t);
                    DUE.is("ask openly", x.openly(0, 1, v), ints[1] % t);
                }
            }
        }
    }

    private static void promise27() {
        DUE.topic("promise 27");
        SealedSums x = new SealedSums(5);
        DUE.is("none", x.differ(0, 0), -1);
        Due.read(x, "in a;in b;out a*b;out a;");
        Due.read(x, "in x;in y;out y*x;out y;");
        Due.read(x, "in a;in b;out a*b;");
        Due.read(x, "in a;in b;in c;out a*b;out a;");
        DUE.is("itself", x.differ(0, 0), 0);
        DUE.is("where a is not b", x.differ(0, 1), 20);
        DUE.is("likewise", x.differ(1, 0), 20);
        DUE.is("asked again", x.differ(0, 1), 20);
        DUE.is("other outs", x.differ(0, 2), -1);
        DUE.is("other ins", x.differ(0, 3), -1);
        DUE.is("no program", x.differ(0, 4), -1);
        DUE.is("no program", x.differ(-1, 0), -1);
        SealedSums w = new SealedSums(5);
        String[] outs = {"1", "a", "a*a", "a*2"};
        for (String out : outs) {
            Due.read(w, "in a;out " + out + ";");
        }
        int[][] differ = {{0, 4, 3, 4}, {4, 0, 3, 4}, {3, 3, 0, 3}, {4, 4, 3, 0}};
        for (int i = 0; i < 32; i++) {
            DUE.is("differ", w.differ(i / 4 % 4, i % 4), differ[i / 4 % 4][i % 4]);
        }
        SealedSums y = new SealedSums(13);
        Due.read(y, "in a;in b;in c;in d;out a+b*c-d;");
        Due.read(y, "in a;in b;in c;in d;out a+b*c-d+choose a 1 1-1;");
        Due.read(y, "in a;in b;in c;in d;in e;out 1;");
        Due.read(y, "in a;in b;in c;in d;out d;");
        DUE.is("four ins", y.differ(0, 1), 0);
        DUE.is("five ins", y.differ(2, 2), -1);
        DUE.is("four ins", y.differ(0, 3), 28561 - 13 * 13 * 13);
        SealedSums z = new SealedSums(3);
        Due.read(z, "out 1;");
        Due.read(z, "out 2;");
        Due.read(z, "");
        DUE.is("no ins", z.differ(0, 1), 1);
        DUE.is("no outs", z.differ(2, 2), 0);
    }

    /** Four PROGRAMS at once, alike but for what they do: each call is about the one that it names. */
    private static void eachProgramItsOwn() {
        DUE.topic("four programs");
        String[] outs = {"a+b", "a*b", "b-a", "2*b"};
        int[][] steps = {{1, -10, -11}, {3, -10, -11}, {2, -11, -10}, {5, -11, 2}};
        int[] costs = {1, 10, 1, 2};
        int[] bounds = {8, 16, 8, 8};
        int[] answers = {4, 3, 2, 1};
        SealedSums x = new SealedSums(5);
        int wide = x.key(1009, 100, 0);
        int narrow = x.key(101, 100, 1);
        x.given(0, x.mask(wide, 1, 1));
        x.given(1, x.mask(wide, 3, 2));
        for (String out : outs) {
            DUE.is("read " + out, Due.read(x, "in a;in b;out " + out + ";"), 0);
        }
        for (int p = 0; p < 4; p++) {
            DUE.is("works " + p, x.works(p), 1);
            for (int what = 0; what < 3; what++) {
                DUE.is("step " + p + " " + what, x.step(p, 0, what), steps[p][what]);
            }
            DUE.is("outs " + p, x.outs(p, 0), 0);
            DUE.is("cost " + p, x.cost(p, 0), costs[p]);
            DUE.is("cost laid " + p, x.cost(p, 1), costs[p] + 25);
            // Fresh BOUNDS of 9 under 101: the product alone, with 81, is drowned.
            DUE.is("holds " + p, x.holds(p, narrow, 0), p == 1 ? 0 : 1);
            DUE.is("best " + p, x.best(p, narrow), p == 1 ? -2 : 0);
            DUE.is("openly " + p, x.openly(p, 0, 1 + 3 * 5), answers[p]);
            int ran = x.run(p, 0, 5);
            DUE.is("run " + p, ran, 2 + p);
            DUE.is("opens " + p, x.open(ran), answers[p]);
            DUE.is("bound " + p, Due.sealed(x, ran, 2), bounds[p]);
        }
        for (int p = 0; p < 4; p++) {
            for (int q = 0; q < 4; q++) {
                int differ = 0;
                for (int v = 0; v < 25; v++) {
                    differ += plainly(p, v % 5, v / 5) == plainly(q, v % 5, v / 5) ? 0 : 1;
                }
                DUE.is("differ " + p + " " + q, x.differ(p, q), differ);
            }
        }
    }

    private static int plainly(int program, int a, int b) {
        return Math.floorMod(program == 0 ? a + b : program == 1 ? a * b : program == 2 ? b - a : 2 * b, 5);
    }
}
