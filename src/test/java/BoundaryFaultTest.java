/** Each boundary that the document names of a text's form and of its FAULTS (promises 4 and 5). */
public final class BoundaryFaultTest {
    private static final String SIX_INS = "in a;in b;in c;in d;in e;in f;";
    private static final String FOUR_TABLES = "table a:0,1;table b:0,1;table c:0,1;table d:0,1;";
    private static final String FOUR_OUTS = "out 1;out 1;out 1;out 1;";
    private static final Sentences DOC = new Sentences("Terms");

    public static void main(String[] args) {
        noTells();
        tellsOfIn();
        tellsOfTable();
        tellsOfLetAndOut();
        sumsAndProducts();
        units();
        noToken();
        ends();
        leastOfOnePlace();
        tokensUpTo300();
        the301stToken();
        the7thIn();
        the5thTable();
        the5thOut();
        sixWithin();
        the7thWithin();
        withinBehindSigns();
        besideOneAnother();
        told();
        toldAnywhere();
        toldOfSixty();
        namesInE();
        namesBehindAsk();
        tables();
        tablesByT();
        formAheadOfNames();
        firstOfNames();
        fortyWorks();
        the41stWork();
        namesAheadOfWorks();
        faultsChangeNothing();
        DOC.end();
    }

    private static void fine(String text) {
        DOC.reads(5, text, 0, -1);
    }

    private static void syntax(String text, int place) {
        DOC.reads(5, text, 1, place);
    }

    private static void noTells() {
        DOC.says("Terms", "text: {TELL}.");
        fine("");
        fine(" ");
        fine("in a;");
        fine("in a;in b;");
        syntax(";", 0);
        syntax("in a;;", 5);
        syntax("a", 0);
        syntax("1", 0);
        syntax("(", 0);
        syntax("choose", 0);
        syntax("ask", 0);
        syntax("=", 0);
    }

    private static void tellsOfIn() {
        DOC.says("Terms", "TELL: 'in' NAME ';'");
        syntax("in;", 2);
        syntax("in 1;", 3);
        syntax("in a", 4);
        syntax("in a b;", 5);
        syntax("in a,b;", 4);
        syntax("in a=1;", 4);
        syntax("in in a;", 3);
    }

    private static void tellsOfTable() {
        DOC.says("Terms", "'table' NAME ':' INT {',' INT} ';'");
        DOC.reads(2, "table t:0,1;", 0, -1);
        syntax("table;", 5);
        syntax("table 1:", 6);
        syntax("table t;", 7);
        syntax("table t=0;", 7);
        syntax("table t:;", 8);
        syntax("table t:,1;", 8);
        syntax("table t:0,;", 10);
        syntax("table t:0,,1;", 10);
        syntax("table t:0 1;", 10);
        syntax("table t:0,a;", 10);
        syntax("table t:a;", 8);
        syntax("table t:(0);", 8);
        syntax("table t:0+1;", 9);
        syntax("table t:-1;", 8);
        syntax("table t:0,1", 11);
        DOC.says("Terms", "'table' NAME ':' INT {',' INT} ';'");
        // One INT is enough for the form; that they are not T is another FAULT.
        DOC.reads(2, "table t:0;", 5, 6);
    }

    private static void tellsOfLetAndOut() {
        DOC.says("Terms", "'let' NAME '=' E ';' | 'out' E ';'");
        fine("let a=1;");
        syntax("let;", 3);
        syntax("let 1=1;", 4);
        syntax("let a;", 5);
        syntax("let a:1;", 5);
        syntax("let a=;", 6);
        syntax("let a==1;", 6);
        syntax("let a=1", 7);
        syntax("let a=1,", 7);
        fine("out 1;");
        syntax("out;", 3);
        syntax("out 1", 5);
        syntax("out =1;", 4);
        syntax("out 1=1;", 5);
        syntax("out 1,2;", 5);
        syntax("out 1:", 5);
    }

    private static void sumsAndProducts() {
        DOC.says("Terms", "E: PART {('+' | '-') PART}. PART: UNIT {'*' UNIT}.");
        fine("out 1+2-3*4*5+6;");
        syntax("out +1;", 4);
        syntax("out -1;", 4);
        syntax("out *1;", 4);
        syntax("out 1+;", 6);
        syntax("out 1-;", 6);
        syntax("out 1*;", 6);
        syntax("out 1++2;", 6);
        syntax("out 1*-2;", 6);
        syntax("out 1 2;", 6);
        syntax("out 1+2 3;", 8);
        syntax("out 1(2);", 5);
    }

    private static void units() {
        DOC.says("Terms", "UNIT: INT | NAME | '(' E ')' | 'choose' UNIT UNIT UNIT | 'ask' NAME UNIT.");
        fine("out (1);");
        fine("out ((1)+2)*(3);");
        fine("out choose 1 2 3;");
        fine("out choose choose 1 2 3 choose 1 2 3 choose 1 2 3;");
        fine("out choose (1+2) (3) 4+5*choose 6 7 8;");
        DOC.reads(2, "table t:0,1;out ask t 1;", 0, -1);
        DOC.reads(2, "table t:0,1;out ask t ask t (1);", 0, -1);
        syntax("out ();", 5);
        syntax("out );", 4);
        syntax("out (1;", 6);
        syntax("out (1));", 7);
        syntax("out (1,2);", 6);
        syntax("out choose;", 10);
        syntax("out choose 1;", 12);
        syntax("out choose 1 2;", 14);
        syntax("out choose 1+2 3 4;", 12);
        syntax("out choose 1 2+3;", 14);
        syntax("out choose 1 2 3 4;", 17);
        syntax("out ask;", 7);
        syntax("out ask 1 2;", 8);
        syntax("out ask t;", 9);
        syntax("out ask (t) 1;", 8);
        syntax("out ask ask t 1;", 8);
        syntax("out ask t +1;", 10);
    }

    private static void noToken() {
        DOC.says("Terms", "1 SYNTAX: a TOKEN, or what is none, with which no text goes on.");
        syntax("in a;abcdefghi", 5);
        syntax("out 1+12345;", 6);
        syntax("out a.b;", 5);
        syntax("in a;/", 5);
        // What is none is no TOKEN of those that could come either.
        syntax("in aaaaaaaaa;", 3);
        syntax("out 99999;", 4);
        syntax("table t:0,12345;", 10);
    }

    private static void ends() {
        DOC.says("Terms", "(a byte; the text's end: its length)");
        String whole = "in a; table t:0,1; let b=choose a 1(2*3); out ask t b-1; ";
        DOC.reads(2, whole, 0, -1);
        // Each beginning of it that is no text ends too early, and that is told at its end.
        for (int length = 0; length < whole.length(); length++) {
            String text = whole.substring(0, length);
            boolean isText = text.isBlank() || text.stripTrailing().endsWith(";");
            boolean wordIsCut = !isText && text.substring(text.lastIndexOf(';') + 1).strip().matches("i|t|ta|tab|tabl|l|le|o|ou");
            int wordsPlace = text.length() - text.substring(text.lastIndexOf(';') + 1).stripLeading().length();
            DOC.reads(2, text, isText ? 0 : 1, isText ? -1 : wordIsCut ? wordsPlace : length);
        }
    }

    private static void leastOfOnePlace() {
        DOC.says("Terms", "the first by its place (a byte; the text's end: its length), of one place the least");
        syntax(SIX_INS + "out in", 34);
        syntax(FOUR_OUTS + "in out;", 27);
        DOC.reads(2, FOUR_TABLES + "in table;", 1, FOUR_TABLES.length() + 3);
        syntax("out ((((((1(", 11);
        syntax("out ((((((1 choose", 12);
        syntax("in a(", 4);
        syntax(tokens300() + "1", tokens300().length());
        DOC.reads(5, "in a;let a=1;table a:0;", 3, 9);
        DOC.reads(5, "in a;table a:0;", 3, 11);
        DOC.reads(4, "in a;table a:0,1,2,3;", 3, 11);
    }

    /** 300 TOKENS, a whole text. */
    private static String tokens300() {
        return "out choose 1 1 1" + "*1".repeat(147) + ";";
    }

    private static void tokensUpTo300() {
        DOC.says("Terms", "2 ROOM: a 301st TOKEN");
        fine(tokens300());
        fine(tokens300() + " \n");
        fine("let a=1" + "*1".repeat(147) + ";");
        // 300 TOKENS that are no whole text: there is no 301st.
        String open = "out 1" + "*1".repeat(148) + "*(";
        syntax(open, open.length());
        syntax(open + "  ", open.length() + 2);
        SealedSums x = new SealedSums(5);
        DOC.is("read", Due.read(x, "in a;out 1;out choose a a a" + "-a".repeat(37) + "*1".repeat(107) + ";"), 0);
        DOC.is("works of 300 TOKENS", x.works(0), 40);
    }

    private static void the301stToken() {
        DOC.says("Terms", "2 ROOM: a 301st TOKEN");
        String whole = tokens300();
        String[] words = {"in", "table", "let", "out"};
        for (String word : words) {
            DOC.reads(5, whole + word, 2, whole.length());
            DOC.reads(5, whole + "  " + word + " !", 2, whole.length() + 2);
        }
        String[] signs = {";", "*", "+", "-"};
        String unit = "let a=1" + "*1".repeat(148);
        for (String sign : signs) {
            DOC.reads(5, unit + sign, 2, unit.length());
        }
        String[] starts = {"1", "a", "(", "choose", "ask"};
        String product = "out 1" + "*1".repeat(148) + "*(";
        for (String start : starts) {
            DOC.reads(5, product + start, 2, product.length());
        }
        DOC.says("Terms", "of one place the least: 1 SYNTAX");
        DOC.reads(5, whole + "1", 1, whole.length());
        DOC.reads(5, whole + ";", 1, whole.length());
        DOC.reads(5, whole + "abcdefghi", 1, whole.length());
        DOC.reads(5, whole + "!", 1, whole.length());
        DOC.reads(5, unit + " 1", 1, unit.length() + 1);
        DOC.reads(5, unit + " 12345", 1, unit.length() + 1);
        DOC.reads(5, product + ")", 1, product.length());
        DOC.reads(5, "(".repeat(2000), 1, 0);
        DOC.reads(5, "out " + "1*".repeat(998), 2, 4 + 299);
    }

    private static void the7thIn() {
        DOC.says("Terms", "a 7th in, a 5th table, a 5th out (at its word)");
        fine(SIX_INS);
        DOC.reads(5, SIX_INS + "in g;", 2, 30);
        DOC.reads(5, SIX_INS + " in", 2, 31);
        DOC.reads(5, SIX_INS + "in a;", 2, 30);
        DOC.reads(5, SIX_INS + "in !", 2, 30);
        DOC.reads(5, SIX_INS + "inn", 1, 30);
        fine(SIX_INS + "let g=1;out g;");
        DOC.reads(5, "in a;in b;in c;in d;in e;out 1;in f;out 2; in g;", 2, 43);
        SealedSums x = new SealedSums(5);
        Due.read(x, SIX_INS);
        DOC.is("each text has its own", Due.read(x, SIX_INS), 0);
        DOC.is("six", x.count(11), 6);
    }

    private static void the5thTable() {
        DOC.says("Terms", "a 7th in, a 5th table, a 5th out (at its word)");
        int end = FOUR_TABLES.length();
        DOC.reads(2, FOUR_TABLES, 0, -1);
        DOC.reads(2, FOUR_TABLES + "table e:0,1;", 2, end);
        DOC.reads(2, FOUR_TABLES + "\ttable", 2, end + 1);
        DOC.reads(2, FOUR_TABLES + "table a:0,1;", 2, end);
        DOC.reads(2, FOUR_TABLES + "in e;out ask d ask c ask b ask a e;", 0, -1);
        SealedSums x = new SealedSums(2);
        Due.read(x, FOUR_TABLES);
        DOC.is("each text has its own", Due.read(x, FOUR_TABLES), 0);
    }

    private static void the5thOut() {
        DOC.says("Terms", "a 7th in, a 5th table, a 5th out (at its word)");
        fine(FOUR_OUTS);
        DOC.reads(5, FOUR_OUTS + "out 1;", 2, 24);
        DOC.reads(5, FOUR_OUTS + "\nout", 2, 25);
        DOC.reads(5, FOUR_OUTS + "out out", 2, 24);
        fine(FOUR_OUTS + "let a=1;in b;");
        SealedSums x = new SealedSums(5);
        Due.read(x, FOUR_OUTS);
        DOC.is("each text has its own", Due.read(x, FOUR_OUTS), 0);
        DOC.is("four", x.count(21), 4);
        DOC.says("Terms", "a 7th in, a 5th table, a 5th out (at its word)");
        StringBuilder lets = new StringBuilder();
        for (char name = 'a'; name <= 'z'; name++) {
            lets.append("let ").append(name).append("=1;");
        }
        fine(lets.toString());
    }

    private static String within(String opening, String inner, String closing, int times) {
        return opening.repeat(times) + inner + closing.repeat(times);
    }

    private static void sixWithin() {
        DOC.says("Terms", "a 7th ( , choose, ask within one another (at it)");
        String[] tells = {"out ", "let a="};
        for (String tell : tells) {
            fine(tell + within("(", "1", ")", 6) + ";");
            fine(tell + within("choose ", "1", " 1 1", 6) + ";");
            fine(tell + within("choose 1 ", "1", " 1", 6) + ";");
            fine(tell + within("choose 1 1 ", "1", "", 6) + ";");
            fine(tell + within("(choose 1 (", "1", ")1)", 2) + ";");
            fine(tell + within("1+(2*", "1", "-3)", 6) + ";");
        }
        String table = "table t:0,1;out ";
        DOC.reads(2, table + within("ask t ", "1", "", 6) + ";", 0, -1);
        DOC.reads(2, table + within("ask t (", "1", ")", 3) + ";", 0, -1);
        DOC.reads(2, table + within("ask t choose 1 1 (", "1", ")", 2) + ";", 0, -1);
    }

    private static void tooDeep(String text, String last) {
        DOC.reads(2, text + last, 2, text.length());
        DOC.reads(2, text + last + " 1;", 2, text.length());
    }

    private static void the7thWithin() {
        DOC.says("Terms", "a 7th ( , choose, ask within one another (at it)");
        String table = "table t:0,1;";
        String[] lasts = {"(", "choose", "ask"};
        for (String last : lasts) {
            tooDeep("out " + "(".repeat(6), last);
            tooDeep("let a=" + "(".repeat(6), last);
            tooDeep("out " + "choose ".repeat(6), last);
            tooDeep("out " + "choose 1 ".repeat(6), last);
            tooDeep("out " + "choose 1 1 ".repeat(6), last);
            tooDeep(table + "out " + "ask t ".repeat(6), last);
            tooDeep(table + "out " + "(choose ask t ".repeat(2), last);
            tooDeep(table + "out " + "ask t(choose 1 ".repeat(2), last);
            tooDeep(table + "out " + "choose 1 1 (ask t ".repeat(2), last);
            tooDeep("out 1*2+" + "(1+".repeat(6), last);
            tooDeep("out " + "(".repeat(5) + "(1)*(1)+(2)-(", last);
        }
    }

    /** What is around a PART or a UNIT is around those behind it too, whatever sign stands between. */
    private static void withinBehindSigns() {
        DOC.says("Terms", "a 7th ( , choose, ask within one another (at it)");
        String[] ahead = {"1+", "1-", "1*", "1*1*", "1+1*", "1*1-", "(1)*(1)+", "choose 1 1 1*"};
        String[] lasts = {"(", "choose", "ask"};
        for (String part : ahead) {
            // Around at most five: what opens within the part itself is then the sixth.
            for (int around = 0; around <= 5; around++) {
                String open = "(".repeat(around) + part + "(".repeat(6 - around);
                fine("out " + open + "1" + ")".repeat(6) + ";");
                for (String last : lasts) {
                    tooDeep("out " + open, last);
                }
            }
            fine("out " + ("(" + part).repeat(5) + "1" + ")".repeat(5) + ";");
        }
    }

    private static void besideOneAnother() {
        DOC.says("Terms", "within one another");
        fine("out (1)+(1)+(1)+(1)+(1)+(1)+(1)+(1);");
        fine("out choose 1 1 1" + "+choose 1 1 1".repeat(8) + ";");
        fine("out " + "(".repeat(5) + "(1)+(1)*(1)-(1)" + ")".repeat(5) + ";");
        fine("out choose (1) (2) (3)*choose 1 2 (3);");
        fine("out " + "(".repeat(5) + "choose 1 1 1*choose 1 1 1" + ")".repeat(5) + ";");
        DOC.reads(2, "table t:0,1;out ask t 1" + "*ask t 1".repeat(8) + ";", 0, -1);
        DOC.reads(2, "table t:0,1;out " + "(".repeat(5) + "ask t 1+ask t 1" + ")".repeat(5) + ";", 0, -1);
        fine("out " + within("(", "1", ")", 6) + "*" + within("(", "1", ")", 6) + ";");
        fine("out choose " + within("(", "1", ")", 5) + within("(", "1", ")", 5) + within("(", "1", ")", 5) + ";");
        // Each UNIT of a choose is within it, and the next is not within the one ahead.
        DOC.reads(5, "out choose " + within("(", "1", ")", 5) + "(".repeat(6), 2, 27);
        DOC.reads(5, "out choose 1 " + within("(", "1", ")", 5) + "(".repeat(6), 2, 29);
    }

    private static void told() {
        DOC.says("Terms", "3 TWICE: a NAME told already (of all kinds)");
        String[] tells = {"in %;", "table %:0,1;", "let %=1;"};
        for (String first : tells) {
            for (String second : tells) {
                String ahead = first.replace("%", "q");
                int place = ahead.length() + second.indexOf('%');
                DOC.reads(2, ahead + second.replace("%", "q"), 3, place);
                DOC.reads(2, ahead + second.replace("%", "qq"), 0, -1);
                DOC.reads(2, ahead + second.replace("%", "p"), 0, -1);
                DOC.reads(2, ahead + "out 1;" + second.replace("%", "q"), 3, place + 6);
            }
        }
        DOC.reads(2, "in a;in b;in a;in b;", 3, 13);
        DOC.reads(2, "in abcdefgh;let abcdefgh=1;", 3, 16);
        SealedSums x = new SealedSums(2);
        for (int i = 0; i < 4; i++) {
            DOC.is("each text has its own", Due.read(x, "in a;table b:0,1;let c=a;"), 0);
        }
    }

    /** Not only the first that was told: each, whatever stands ahead of it and behind. */
    private static void toldAnywhere() {
        DOC.says("Terms", "3 TWICE: a NAME told already (of all kinds)");
        String ahead = "in a;table b:0,1;let c=1;in d;table e:0,1;let f=d;out 1;in g;table h:0,1;let i=g;";
        String[] tells = {"in %;", "table %:0,1;", "let %=1;"};
        for (String tell : tells) {
            for (char name = 'a'; name <= 'i'; name++) {
                DOC.reads(2, ahead + tell.replace('%', name), 3, ahead.length() + tell.indexOf('%'));
            }
            DOC.reads(2, ahead + tell.replace('%', 'j'), 0, -1);
        }
    }

    /** As many NAMES as 300 TOKENS can tell: 60 lets, of five TOKENS each. */
    private static void toldOfSixty() {
        DOC.says("Terms", "3 TWICE: a NAME told already (of all kinds)");
        StringBuilder ahead = new StringBuilder();
        for (int i = 0; i < 59; i++) {
            ahead.append("let ").append(letName(i)).append("=").append(i % 5).append(";");
        }
        for (int i = 0; i < 59; i++) {
            DOC.reads(5, ahead + "let " + letName(i) + "=1;", 3, ahead.length() + 4);
            DOC.reads(5, ahead + "in " + letName(i) + ";", 3, ahead.length() + 3);
            SealedSums x = new SealedSums(5);
            DOC.is("a let of 59 in an E", Due.read(x, ahead + "out " + letName(i) + ";"), 0);
            DOC.is("what it is", x.outs(0, 0), -30 - i % 5);
        }
        DOC.reads(5, ahead + "let " + letName(59) + "=" + letName(58) + ";", 0, -1);
        DOC.reads(5, ahead + "let " + letName(59) + "=" + letName(59) + ";", 4, ahead.length() + 7);
    }

    private static String letName(int i) {
        return (char) ('a' + i / 26) + "" + (char) ('a' + i % 26);
    }

    private static void namesInE() {
        DOC.says("Terms", "4 NAME: in an E: no in, no let told ahead");
        DOC.reads(2, "out a;", 4, 4);
        DOC.reads(2, "in a;out a;", 0, -1);
        DOC.reads(2, "let a=1;out a;", 0, -1);
        DOC.reads(2, "table a:0,1;out a;", 4, 16);
        DOC.reads(2, "out a;in a;", 4, 4);
        DOC.reads(2, "out a;let a=1;", 4, 4);
        DOC.reads(2, "let b=a;let a=1;", 4, 6);
        DOC.reads(2, "let a=a;", 4, 6);
        DOC.reads(2, "let a=1+a;", 4, 8);
        DOC.reads(2, "let a=1;let b=a;let c=b;out c;", 0, -1);
        DOC.reads(2, "in a;out aa;", 4, 9);
        DOC.reads(2, "out (1+choose 1 2 a);", 4, 18);
        DOC.reads(2, "table t:0,1;out ask t a;", 4, 22);
        DOC.reads(2, "table t:0,1;out ask t t;", 4, 22);
        DOC.reads(2, "out 1*0*a;", 4, 8);
    }

    private static void namesBehindAsk() {
        DOC.says("Terms", "behind ask: no table told ahead");
        DOC.reads(2, "table t:0,1;out ask t 1;", 0, -1);
        DOC.reads(2, "out ask t 1;", 4, 8);
        DOC.reads(2, "out ask t 1;table t:0,1;", 4, 8);
        DOC.reads(2, "in a;out ask a 1;", 4, 13);
        DOC.reads(2, "let a=1;out ask a 1;", 4, 16);
        DOC.reads(2, "let t=ask t 1;", 4, 10);
        DOC.reads(2, "table t:0,1;out ask tt 1;", 4, 20);
        DOC.reads(2, "out ask t u;", 4, 8);
        DOC.reads(4, "out ask t 1;", 4, 8);
    }

    private static String table(int ints) {
        return "table t:0" + ",1".repeat(ints - 1) + ";";
    }

    private static void tables() {
        DOC.says("Terms", "5 WRONG: the NAME of a table that has not T INTS");
        int[] primes = {2, 3, 5, 7, 11, 13};
        for (int t : primes) {
            for (int ints = 1; ints <= 15; ints++) {
                DOC.reads(t, table(ints), ints == t ? 0 : 5, ints == t ? -1 : 6);
            }
            DOC.reads(t, table(t) + "\ttable u:0;", 5, table(t).length() + 7);
        }
        DOC.reads(2, "table t:0" + ",1".repeat(146) + ";", 5, 6);
    }

    private static void tablesByT() {
        DOC.says("Terms", "or if T is not 2, 3, 5, 7, 11, 13");
        int[] others = {4, 6, 8, 9, 10, 12};
        for (int t : others) {
            DOC.reads(t, table(t), 5, 6);
            DOC.reads(t, table(t - 1), 5, 6);
            DOC.reads(t, "in a;out a;", 0, -1);
        }
        // A T that is none becomes 2, which has tables.
        DOC.reads(14, table(2), 0, -1);
        DOC.reads(1, table(2), 0, -1);
    }

    private static void formAheadOfNames() {
        DOC.says("Terms", "If there is none, likewise: 3 TWICE");
        DOC.reads(5, "out z;in a;in a;table t:0;!", 1, 26);
        DOC.reads(5, "out z;" + "in a;".repeat(7), 2, 36);
        DOC.reads(5, "out z;in", 1, 8);
        DOC.reads(5, "table t:0;" + "out 1;".repeat(5), 2, 34);
        DOC.reads(5, "in a;in a;out ((((((((", 2, 20);
    }

    private static void firstOfNames() {
        DOC.says("Terms", "FAULTS, the first by its place");
        DOC.reads(5, "out z;in a;in a;table t:0;", 4, 4);
        DOC.reads(5, "in a;in a;out z;table t:0;", 3, 8);
        DOC.reads(5, "table t:0;out z;in a;in a;", 5, 6);
        DOC.reads(5, "in a;let a=z;", 3, 9);
        DOC.reads(5, "let b=z;let b=1;", 4, 6);
        DOC.reads(5, "in a;out y+z;", 4, 9);
        DOC.reads(5, "out ask y z;", 4, 8);
        DOC.reads(5, "!!", 1, 0);
        DOC.reads(5, "in;out;", 1, 2);
        DOC.reads(5, SIX_INS + "in g;in h;!", 2, 30);
    }

    private static String sums(int works) {
        return "a" + "+a".repeat(works);
    }

    private static void fortyWorks() {
        DOC.says("Terms", "6 WORKS: the first TELL (at its word) with which there are more than 40 WORKS");
        fine("in a;out " + sums(40) + ";");
        fine("in a;let b=" + sums(40) + ";");
        fine("in a;out " + sums(20) + ";let b=" + sums(20) + ";");
        fine("in a;out " + sums(40) + ";out a;out 1+2*3;let c=a+0;let d=c*1;out d*0;");
        SealedSums x = new SealedSums(5);
        Due.read(x, "in a;out " + sums(39) + ";out a*2;");
        DOC.is("works", x.works(0), 40);
        DOC.is("the 40th", x.step(0, 39, 0), 5);
        DOC.is("an out", x.outs(0, 1), 39);
        DOC.is("no 41st", x.step(0, 40, 0), -100);
    }

    private static void the41stWork() {
        DOC.says("Terms", "6 WORKS: the first TELL (at its word) with which there are more than 40 WORKS");
        DOC.reads(5, "in a;out " + sums(41) + ";", 6, 5);
        DOC.reads(5, "in a; let b=" + sums(41) + ";", 6, 6);
        String forty = "in a;out " + sums(40) + ";";
        DOC.reads(5, forty + "out a+1;", 6, forty.length());
        DOC.reads(5, forty + "let b=a*2;", 6, forty.length());
        DOC.reads(5, forty + "out a;\nout a-a;out a-a;", 6, forty.length() + 7);
        DOC.reads(5, forty + "let b=a;let c=0-b;", 6, forty.length() + 8);
        DOC.reads(5, "in a;out " + sums(39) + ";out 2-a;", 6, 5 + 4 + 79 + 1);
        DOC.reads(5, "in a;out a" + "*a".repeat(100) + ";out a" + "*a".repeat(40) + ";", 6, 5);
        // Works that no out needs count too.
        DOC.reads(5, "in a;let b=" + sums(40) + ";let c=a+1;out a;", 6, 5 + 6 + 81 + 1);
    }

    private static void namesAheadOfWorks() {
        DOC.says("Terms", "If there is none: 6 WORKS");
        DOC.reads(5, "in a;out " + sums(41) + ";out z;", 4, 5 + 4 + 83 + 1 + 4);
        DOC.reads(5, "in a;out " + sums(41) + ";in a;", 3, 5 + 4 + 83 + 1 + 3);
        DOC.reads(5, "in a;out " + sums(41) + ";table t:0;", 5, 5 + 4 + 83 + 1 + 6);
        DOC.reads(5, "in a;out " + sums(41) + ";in", 1, 5 + 4 + 83 + 1 + 2);
    }

    /** The place is the FAULT's own, so an empty text is read behind it, which has none. */
    private static void faultsChangeNothing() {
        DOC.says("Terms", "A text with a FAULT changes nothing");
        String[] texts = {"in a;in b;out a*b;out", SIX_INS + "in g;", "in a;let b=a+a;in a;", "in a;in b;out a*b*z;",
            "in a;out a*a;table t:0;", "in a;in b;out b;out " + sums(41) + ";"};
        for (int i = 0; i < texts.length; i++) {
            String text = texts[i];
            int number = i + 1;
            Twins.House blank = () -> {
                SealedSums x = Houses.small();
                x.back(10);
                Due.read(x, "!");
                return x;
            };
            DOC.is("FAULT " + number, Due.read(blank.made(), text), number);
            Twins.House after = () -> {
                SealedSums x = blank.made();
                Due.read(x, text);
                Due.read(x, "!");
                return x;
            };
            DOC.is("FAULT " + number + " leaves all but the place", Twins.firstDifference(blank, after).isEmpty(), true);
        }
    }
}
