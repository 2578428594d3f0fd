/** Each boundary that the document names of the tape, reading it, and TOKENS: promises 2 to 5. */
public final class BoundaryTapeTest {
    private static final int LEAST = Integer.MIN_VALUE;
    private static final int MOST = Integer.MAX_VALUE;
    private static final Sentences DOC = new Sentences("Terms", "Promise 2", "Promise 3", "Promise 4", "Promise 5");

    public static void main(String[] args) {
        feeds();
        feedsBytes();
        refusedFeeds();
        backs();
        refusedBacks();
        readsEmptyTape();
        readsAndEmpties();
        fourPrograms();
        places();
        placesAtTheEnds();
        fullText();
        blanks();
        everyByteBetweenTells();
        everyByteInAName();
        everyByteInAnInt();
        names();
        namesApart();
        words();
        ints();
        longest();
        DOC.end();
    }

    private static SealedSums withBytes(int n) {
        SealedSums x = new SealedSums(5);
        Due.feed(x, " ".repeat(n));
        return x;
    }

    private static int feedOnce(SealedSums x) {
        return x.feed(0x20202020, 0x20202020, 0x20202020, 0x20202020, 0x20202020);
    }

    private static void feeds() {
        DOC.says("Promise 2", "Twenty bytes, the highest of a first, come behind the tape: how many it has.");
        SealedSums x = new SealedSums(5);
        for (int n = 20; n <= 2000; n += 20) {
            DOC.is("feed", feedOnce(x), n);
        }
        DOC.is("it has", x.count(3), 2000);
        DOC.says("Terms", "A TEXT has 2,000 bytes at most.");
        DOC.is("2,000 are blanks", x.read(), 0);
        for (int n = 0; n < 20; n++) {
            DOC.is("feed behind " + n, feedOnce(withBytes(n)), n + 20);
        }
    }

    /** Which byte comes when is seen by the one that is no blank: it is the FAULT's place. */
    private static void feedsBytes() {
        DOC.says("Promise 2", "Twenty bytes, the highest of a first");
        for (int at = 0; at < 20; at++) {
            int[] words = {0x20202020, 0x20202020, 0x20202020, 0x20202020, 0x20202020};
            int shift = 24 - at % 4 * 8;
            words[at / 4] = words[at / 4] & ~(255 << shift) | 200 << shift;
            SealedSums x = new SealedSums(5);
            x.feed(words[0], words[1], words[2], words[3], words[4]);
            DOC.is("a byte that is no TOKEN", x.read(), 1);
            DOC.is("its place", x.place(), at);
        }
        SealedSums x = new SealedSums(5);
        x.feed('i' << 24 | 'n' << 16 | ' ' << 8 | 'a', ';' << 24 | 'o' << 16 | 'u' << 8 | 't',
            ' ' << 24 | 'a' << 16 | ';' << 8 | 'o', 'u' << 24 | 't' << 16 | ' ' << 8 | '1', '*' << 24 | '3' << 16 | ';' << 8 | 10);
        DOC.is("in a;out a;out 1*3; and 10", x.read(), 0);
        DOC.is("an in", x.outs(0, 0), -10);
        DOC.is("a 3", x.outs(0, 1), -33);
    }

    private static void refusedFeeds() {
        DOC.says("Promise 2", "NONE, and nothing comes, if it would have more than 2,000.");
        DOC.is("1980 and 20", feedOnce(withBytes(1980)), 2000);
        for (int n = 1981; n <= 2000; n++) {
            int bytes = n;
            SealedSums x = withBytes(bytes);
            DOC.is(n + " and 20", feedOnce(x), -1);
            DOC.is("nothing came", x.count(3), n);
        }
        DOC.refused("1981 and 20", () -> withBytes(1981), BoundaryTapeTest::feedOnce, -1);
        DOC.refused("2000 and 20", Houses::fullTape, x -> x.feed(-1, -1, -1, -1, -1), -1);
        DOC.is("one goes, and still none comes", onceMore(1), -1);
        DOC.is("19 go, and still none comes", onceMore(19), -1);
        DOC.is("20 go, and 20 come", onceMore(20), 2000);
    }

    private static int onceMore(int gone) {
        SealedSums x = withBytes(2000);
        x.back(gone);
        return feedOnce(x);
    }

    private static void backs() {
        DOC.says("Promise 3", "The last n bytes of the tape go: how many it has.");
        DOC.is("0 of 0", new SealedSums(5).back(0), 0);
        DOC.is("0 of 40", withBytes(40).back(0), 40);
        DOC.is("1 of 40", withBytes(40).back(1), 39);
        DOC.is("39 of 40", withBytes(40).back(39), 1);
        DOC.is("40 of 40", withBytes(40).back(40), 0);
        DOC.is("2000 of 2000", withBytes(2000).back(2000), 0);
        SealedSums x = new SealedSums(5);
        Due.feed(x, "out 1;out 2;!!");
        DOC.is("the last go", x.back(2), 12);
        DOC.is("the first stay", x.read(), 0);
        DOC.is("both", x.outs(0, 0) * 1000 + x.outs(0, 1), -31032);
        SealedSums y = new SealedSums(5);
        Due.feed(y, "out 1;out 2;");
        y.back(6);
        Due.feed(y, "out 3;");
        DOC.is("others come in their place", y.read(), 0);
        DOC.is("the second out", y.outs(0, 1), -33);
        DOC.is("no third", y.outs(0, 2), -100);
    }

    private static void refusedBacks() {
        DOC.says("Promise 3", "NONE, and nothing goes, if it has not so many, or n is below 0.");
        DOC.refused("1 of 0", () -> new SealedSums(5), x -> x.back(1), -1);
        DOC.refused("11 of 10", Houses::small, x -> x.back(11), -1);
        DOC.refused("2001 of 2000", Houses::fullTape, x -> x.back(2001), -1);
        int[] below = {-1, -10, LEAST, LEAST + 1};
        for (int n : below) {
            DOC.refused("back(" + n + ")", Houses::small, x -> x.back(n), -1);
            DOC.refused("back(" + n + ") of none", () -> new SealedSums(5), x -> x.back(n), -1);
        }
        DOC.refused("the most", Houses::fullTape, x -> x.back(MOST), -1);
        DOC.refused("-1 of a full one", Houses::fullTape, x -> x.back(-1), -1);
    }

    private static void readsEmptyTape() {
        DOC.says("Promise 4", "The tape, which is empty then, is read: 0, or the number of its FAULT.");
        SealedSums x = new SealedSums(5);
        for (int i = 0; i < 4; i++) {
            DOC.is("read() of an empty tape", x.read(), 0);
            DOC.is("it is a program", x.count(2), i + 1);
            DOC.is("without works", x.works(i), 0);
            DOC.is("without ins", x.count(10 + i), 0);
            DOC.is("without outs", x.count(20 + i), 0);
        }
        DOC.is("a fifth", x.read(), -2);
    }

    private static void readsAndEmpties() {
        DOC.says("Promise 4", "The tape, which is empty then, is read");
        SealedSums x = new SealedSums(5);
        DOC.is("a text", Due.read(x, "out 1;"), 0);
        DOC.is("empty then", x.count(3), 0);
        DOC.is("nothing goes back", x.back(1), -1);
        DOC.is("a fault", Due.read(x, "out 1;out"), 1);
        DOC.is("empty then", x.count(3), 0);
        DOC.is("the next text begins anew", Due.read(x, "out 2;"), 0);
        DOC.is("its out alone", x.count(21), 1);
        DOC.is("no more of the one ahead", x.outs(1, 0), -32);
    }

    private static void fourPrograms() {
        DOC.says("Terms", "else it is a PROGRAM, numbered from 0 on, 4 at most");
        SealedSums x = new SealedSums(13);
        for (int i = 0; i < 4; i++) {
            DOC.is("read " + i, Due.read(x, "in a;out a+" + (i + 1) + ";"), 0);
            DOC.is("a fault ahead of the next", i < 3 ? Due.read(x, "in") : 1, 1);
        }
        for (int i = 0; i < 4; i++) {
            DOC.is("plus", x.step(i, 0, 2), i + 1);
        }
        DOC.says("Promise 4", "-2, and the tape stays: 4 PROGRAMS are there.");
        DOC.refused("a fifth", Houses::fourPrograms, y -> y.read(), -2);
        Due.feed(x, "in a;out");
        DOC.is("a fifth with a fault", x.read(), -2);
        DOC.is("the tape stays", x.count(3), 8);
        x.back(8);
        DOC.is("a fifth without bytes", x.read(), -2);
        DOC.is("programs", x.count(2), 4);
        DOC.is("the tape can still grow", Due.feed(x, " ".repeat(2000)), 2000);
        DOC.is("a fifth of 2,000", x.read(), -2);
        DOC.is("the tape stays", x.count(3), 2000);
    }

    private static void places() {
        DOC.says("Promise 5", "The byte of the latest read()'s FAULT (that was not -2); NONE without.");
        SealedSums x = new SealedSums(5);
        DOC.is("none was read", x.place(), -1);
        Due.read(x, "out 1;out");
        DOC.is("a fault", x.place(), 9);
        DOC.is("asked again", x.place(), 9);
        Due.feed(x, "out");
        DOC.is("as long as none is read", x.place(), 9);
        x.read();
        DOC.is("the latest", x.place(), 3);
        x.read();
        DOC.is("a text without", x.place(), -1);
        for (int i = 0; i < 2; i++) {
            x.read();
        }
        Due.read(x, "in a;out b;");
        DOC.is("a fault of names", x.place(), 9);
        x.read();
        Due.read(x, "out 1;out");
        DOC.is("-2 is none of these", x.place(), -1);
        SealedSums y = new SealedSums(5);
        for (int i = 0; i < 3; i++) {
            y.read();
        }
        Due.read(y, "!");
        DOC.is("a fault at the first byte", y.place(), 0);
        Due.read(y, "out 1;");
        DOC.is("the fourth has none", y.place(), -1);
        DOC.is("-2", y.read(), -2);
        DOC.is("still none", y.place(), -1);
    }

    private static void placesAtTheEnds() {
        DOC.says("Terms", "the first by its place (a byte; the text's end: its length)");
        DOC.reads(5, ";", 1, 0);
        DOC.reads(5, "in", 1, 2);
        DOC.reads(5, "in ", 1, 3);
        DOC.reads(5, "in \n\t\r ", 1, 7);
        DOC.reads(5, "in a", 1, 4);
        DOC.reads(5, "out (1", 1, 6);
        DOC.reads(5, "in a" + " ".repeat(1996), 1, 2000);
        DOC.reads(5, "in a" + " ".repeat(1995), 1, 1999);
        DOC.reads(5, " ".repeat(1999) + "!", 1, 1999);
        DOC.reads(5, " ".repeat(1999) + "a", 1, 1999);
        DOC.reads(5, " ".repeat(1997) + "out", 1, 2000);
        DOC.reads(5, "in a;in b;in c;in d;in e;in f;" + " ".repeat(1968) + "in", 2, 1998);
        DOC.reads(5, "out" + " ".repeat(1995) + "a;", 4, 1998);
    }

    private static void fullText() {
        DOC.says("Terms", "A TEXT has 2,000 bytes at most.");
        DOC.reads(5, " ".repeat(2000), 0, -1);
        DOC.reads(5, " ".repeat(1994) + "out 1;", 0, -1);
        DOC.reads(5, "out 1;" + " ".repeat(1994), 0, -1);
        SealedSums x = Houses.fullTape();
        DOC.is("2,000 bytes", x.count(3), 2000);
        DOC.is("read", x.read(), 0);
        DOC.is("its first out", x.outs(3, 0), 0);
        DOC.is("its last out", x.outs(3, 1), -31);
    }

    private static void blanks() {
        DOC.says("Terms", "with blanks (9, 10, 13, 32) between or not");
        int[] blanks = {9, 10, 13, 32};
        for (int blank : blanks) {
            char b = (char) blank;
            DOC.reads(5, "in" + b + "a;", 0, -1);
            DOC.reads(5, b + "in" + b + b + "a" + b + ";" + b, 0, -1);
            DOC.reads(5, "out 1" + b + "1;", 1, 6);
            DOC.reads(5, "in a" + b + "b;", 1, 5);
            DOC.reads(5, "i" + b + "n a;", 1, 0);
        }
        DOC.reads(5, "in a;in b;out choose a b(1+2)*3;", 0, -1);
        int[] near = {0, 8, 11, 12, 14, 31, 33, 127, 128, 133, 160, 255};
        for (int sign : near) {
            DOC.reads(5, "in" + (char) sign + "a;", 1, 2);
        }
    }

    private static boolean isBlank(int sign) {
        return sign == 9 || sign == 10 || sign == 13 || sign == 32;
    }

    private static void everyByteBetweenTells() {
        DOC.says("Terms", "A longer one, all else, is no TOKEN.");
        for (int sign = 0; sign < 256; sign++) {
            boolean fine = isBlank(sign);
            DOC.reads(5, "in a;" + (char) sign + "out a;", fine ? 0 : 1, fine ? -1 : 5);
        }
    }

    private static void everyByteInAName() {
        DOC.says("Terms", "NAMES (letters a .. z, 8 at most");
        for (int sign = 0; sign < 256; sign++) {
            boolean letter = sign >= 97 && sign <= 122;
            DOC.reads(5, "in q" + (char) sign + "q;", letter ? 0 : 1,
                letter ? -1 : isBlank(sign) || sign == ';' ? 5 : 4);
        }
    }

    private static void everyByteInAnInt() {
        DOC.says("Terms", "INTS (1 to 4 digits), SIGNS ; : , = + - * ( ) .");
        for (int sign = 0; sign < 256; sign++) {
            boolean fine = sign >= 48 && sign <= 57 || sign == '+' || sign == '-' || sign == '*';
            DOC.reads(5, "out 1" + (char) sign + "1;", fine ? 0 : 1, fine ? -1 : isBlank(sign) || sign == ';' ? 6 : 5);
        }
        DOC.reads(5, "out 1.", 1, 5);
        DOC.reads(5, "in a;.", 1, 5);
    }

    private static void names() {
        DOC.says("Terms", "NAMES (letters a .. z, 8 at most");
        DOC.reads(5, "in a;", 0, -1);
        DOC.reads(5, "in z;", 0, -1);
        DOC.reads(5, "in abcdefg;", 0, -1);
        DOC.reads(5, "in abcdefgh;", 0, -1);
        DOC.reads(5, "in abcdefghi;", 1, 3);
        DOC.reads(5, "in zzzzzzzz;", 0, -1);
        DOC.reads(5, "in zzzzzzzzz;", 1, 3);
        DOC.reads(5, "in " + "a".repeat(1996) + ";", 1, 3);
        DOC.reads(5, "in abcdefgh;out abcdefgh;", 0, -1);
        DOC.reads(5, "in abcdefgh;out abcdefgi;", 4, 16);
        DOC.reads(5, "in abcdefgh;out abcdefg;", 4, 16);
        DOC.reads(5, "in abcdefgh;out bbcdefgh;", 4, 16);
        DOC.reads(5, "out abcdefghi;", 1, 4);
        DOC.reads(5, "abcdefghi", 1, 0);
        DOC.reads(5, "in aB;", 1, 4);
    }

    /** Each is another NAME, so all of them can be told in one text, and each stands for its own. */
    private static void namesApart() {
        DOC.says("Terms", "NAMES (letters a .. z, 8 at most");
        String[] names = {"a", "aa", "aaa", "aaaaaaaa", "aaaaaaa", "b", "ab", "ba", "bb", "bbbbbbbb", "abbbbbbb", "z", "zz",
            "az", "za", "zzzzzzzz", "zzzzzzzy", "yzzzzzzz", "abcdefgh", "hgfedcba", "bbc", "bcb", "cbb", "c", "y"};
        StringBuilder text = new StringBuilder();
        for (int i = 0; i < names.length; i++) {
            text.append("let ").append(names[i]).append("=").append(i).append(";");
        }
        for (int i = 0; i < names.length; i++) {
            SealedSums x = new SealedSums(13);
            DOC.is("read", Due.read(x, text + "out " + names[i] + ";out " + names[0] + ";"), 0);
            DOC.is("what " + names[i] + " is", x.outs(0, 0), -30 - i % 13);
            DOC.is("what " + names[0] + " is", x.outs(0, 1), -30);
        }
    }

    private static void words() {
        DOC.says("Terms", "none of the words in quotes");
        String[] words = {"in", "table", "let", "out", "choose", "ask"};
        for (String word : words) {
            DOC.reads(2, "in " + word + ";", 1, 3);
            DOC.reads(2, "let " + word + "=1;", 1, 4);
            DOC.reads(2, "table " + word + ":0,1;", 1, 6);
            DOC.reads(2, "in " + word + "s;", 0, -1);
            DOC.reads(2, "in s" + word + ";", 0, -1);
            DOC.reads(2, "in " + word.substring(1) + ";", 0, -1);
            DOC.reads(2, "in " + word.substring(0, word.length() - 1) + ";", 0, -1);
            DOC.reads(2, "in " + word.substring(0, word.length() - 1) + "z;", 0, -1);
            DOC.reads(2, "in z" + word.substring(1) + ";", 0, -1);
            DOC.reads(2, "z" + word.substring(1) + " 1;", 1, 0);
        }
        DOC.reads(2, "in IN;", 1, 3);
        DOC.reads(2, "out in;", 1, 4);
        DOC.reads(2, "out let;", 1, 4);
        DOC.reads(2, "out out;", 1, 4);
        DOC.reads(2, "out table;", 1, 4);
        DOC.reads(2, "table t:0,1;out ask in 1;", 1, 20);
    }

    private static void ints() {
        DOC.says("Terms", "INTS (1 to 4 digits)");
        DOC.reads(5, "out 0;", 0, -1);
        DOC.reads(5, "out 9;", 0, -1);
        DOC.reads(5, "out 9999;", 0, -1);
        DOC.reads(5, "out 0000;", 0, -1);
        DOC.reads(5, "out 10000;", 1, 4);
        DOC.reads(5, "out 00000;", 1, 4);
        DOC.reads(5, "out 00001;", 1, 4);
        DOC.reads(5, "out " + "1".repeat(1995) + ";", 1, 4);
        DOC.reads(5, "table t:0,1,2,3,9999;", 0, -1);
        DOC.reads(5, "table t:0,1,2,3,10000;", 1, 16);
        for (int t = 2; t <= 13; t++) {
            SealedSums x = new SealedSums(t);
            Due.read(x, "out 9999;out 0012;out 0;out 0000;");
            DOC.is("9999", x.outs(0, 0), -30 - 9999 % t);
            DOC.is("0012", x.outs(0, 1), -30 - 12 % t);
            DOC.is("0", x.outs(0, 2), -30);
            DOC.is("0000", x.outs(0, 3), -30);
        }
    }

    private static void longest() {
        DOC.says("Terms", "TOKENS, the longest that can be");
        DOC.reads(5, "ina;", 1, 0);
        DOC.reads(5, "inin;", 1, 0);
        DOC.reads(5, "in in;", 1, 3);
        DOC.reads(5, "out1;", 0, -1);
        DOC.reads(5, "outa;", 1, 0);
        DOC.reads(5, "in a;let b=1out b;", 1, 12);
        DOC.reads(5, "in a;out choose a 1a;", 0, -1);
        DOC.reads(5, "in a;out choose aa 1;", 1, 20);
        DOC.reads(5, "out choose 1 23;", 1, 15);
        DOC.reads(5, "out choose 1 2 3;", 0, -1);
        DOC.reads(5, "in a;out choosea a a;", 1, 17);
        DOC.reads(5, "in a;out choosea;", 4, 9);
        DOC.reads(5, "in a;out choose(a)(a)(a);", 0, -1);
        SealedSums x = new SealedSums(13);
        Due.read(x, "out 12;out 1*2;");
        DOC.is("one INT of two digits", x.outs(0, 0), -42);
        DOC.is("two INTS", x.outs(0, 1), -32);
    }
}
