import java.util.ArrayList;
import java.util.List;

/**
 * Whether a call leaves everything as it was: two objects are made alike, one of them gets the call, and then both are
 * asked all that can be asked. Asking is done in several goes, each on new objects, so that a go may use them up and
 * none is called more than 512 times.
 */
final class Twins {
    interface House {
        SealedSums made();
    }

    interface Call {
        long of(SealedSums x);
    }

    interface Wish {
        boolean of(SealedSums x);
    }

    private interface Go {
        void ask(SealedSums x, List<String> answers);
    }

    private static final Go[] GOES = {Twins::counts, Twins::openings, Twins::keysAndParts, Twins::programs, Twins::runs,
        Twins::tape, Twins::next};

    private Twins() {
    }

    static String firstDifference(House house, Call call) {
        return firstDifference(house, () -> {
            SealedSums called = house.made();
            call.of(called);
            return called;
        });
    }

    /** Empty if there is none. */
    static String firstDifference(House one, House other) {
        for (Go go : GOES) {
            List<String> before = new ArrayList<>();
            List<String> after = new ArrayList<>();
            go.ask(one.made(), before);
            go.ask(other.made(), after);
            for (int i = 0; i < before.size() || i < after.size(); i++) {
                String was = i < before.size() ? before.get(i) : "nothing";
                String is = i < after.size() ? after.get(i) : "nothing";
                if (!was.equals(is)) {
                    return was + " into " + is;
                }
            }
        }
        return "";
    }

    private static void note(List<String> answers, String call, long answer) {
        answers.add(call + " = " + answer);
    }

    private static void counts(SealedSums x, List<String> answers) {
        for (int what = -1; what < 25; what++) {
            note(answers, "count(" + what + ")", x.count(what));
        }
        note(answers, "place()", x.place());
        for (int a = 0; a < x.count(1); a++) {
            for (int what = 0; what < 5; what++) {
                note(answers, "sealed(" + a + ", " + what + ")", Due.sealed(x, a, what));
            }
        }
    }

    private static void openings(SealedSums x, List<String> answers) {
        for (int a = 0; a < x.count(1); a++) {
            note(answers, "noise(" + a + ")", x.noise(a));
            note(answers, "open(" + a + ")", x.open(a));
        }
        note(answers, "opening(0, 5, 3)", x.opening(0, 5, 3));
        note(answers, "the budget then", x.count(4));
    }

    private static void keysAndParts(SealedSums x, List<String> answers) {
        for (int key = 0; key < 4; key++) {
            for (int i = 1; i <= 6; i++) {
                note(answers, "part(" + key + ", " + i + ")", x.part(key, i));
            }
            note(answers, "who(" + key + ")", x.who(key));
            for (int set = 0; set < 64; set++) {
                note(answers, "joined(" + key + ", " + set + ")", x.joined(key, set));
            }
            note(answers, "even(" + key + ", 1, 16)", x.even(key, 1, 16));
        }
    }

    private static void programs(SealedSums x, List<String> answers) {
        for (int p = 0; p < x.count(2); p++) {
            note(answers, "works(" + p + ")", x.works(p));
            for (int k = 0; k < Math.min(20, x.works(p)); k++) {
                for (int what = 0; what < 3; what++) {
                    note(answers, "step(" + p + ", " + k + ", " + what + ")", x.step(p, k, what));
                }
            }
            for (int k = 0; k < x.count(20 + p); k++) {
                note(answers, "outs(" + p + ", " + k + ")", x.outs(p, k));
                note(answers, "openly(" + p + ", " + k + ", 1)", x.openly(p, k, 1));
            }
            for (int key = 0; key < x.count(0); key++) {
                note(answers, "holds(" + p + ", " + key + ", 0)", x.holds(p, key, 0));
            }
            note(answers, "cost(" + p + ", 0)", x.cost(p, 0));
        }
    }

    /** What was given to the ins is seen in runs alone. */
    private static void runs(SealedSums x, List<String> answers) {
        for (int p = 0; p < x.count(2); p++) {
            int before = x.count(1);
            note(answers, "run(" + p + ", 0, 1)", x.run(p, 0, 1));
            for (int a = before; a < x.count(1); a++) {
                note(answers, "C of an out", Due.sealed(x, a, 1));
                note(answers, "BOUND of an out", Due.sealed(x, a, 2));
            }
        }
    }

    /** What stands on the tape is seen by reading it, which needs a PROGRAM's room. */
    private static void tape(SealedSums x, List<String> answers) {
        int program = x.count(2);
        note(answers, "back(0)", x.back(0));
        note(answers, "read()", x.read());
        note(answers, "place()", x.place());
        note(answers, "ins of it", x.count(10 + program));
        note(answers, "works of it", x.works(program));
        for (int k = 0; k < 4; k++) {
            note(answers, "outs of it", x.outs(program, k));
        }
    }

    private static void next(SealedSums x, List<String> answers) {
        for (int key = 0; key < 4; key++) {
            note(answers, "mask(" + key + ", 1, 5)", x.mask(key, 1, 5));
            note(answers, "dead(" + key + ")", x.dead(key) ? 1 : 0);
        }
        for (int a = 0; a < 5; a++) {
            note(answers, "key(10007, 10, 3)", x.key(10007, 10, 3));
        }
        for (int a = x.count(1) - 4; a < x.count(1); a++) {
            note(answers, "C of it", Due.sealed(x, a, 1));
        }
    }
}
