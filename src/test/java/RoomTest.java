import com.sun.management.ThreadMXBean;
import java.lang.management.ManagementFactory;

/** All calls of a run live in one room: an object is made with all its rows, and its calls make next to nothing. */
public final class RoomTest {
    private static final ThreadMXBean THREADS = (ThreadMXBean) ManagementFactory.getThreadMXBean();

    private static long bytes() {
        return THREADS.getThreadAllocatedBytes(Thread.currentThread().getId());
    }

    /** The dearest calls there are: four ins over 13, 40 works, 12 works laid, all parts, the widest masks. */
    private static SealedSums dear() {
        SealedSums x = new SealedSums(13);
        Due.read(x, "in a;in b;in c;in d;out a*b*c*d" + "+a*b*c".repeat(12) + ";");
        Due.read(x, "in a;in b;in c;in d;out a*b*c*d" + "+a*c*b".repeat(12) + ";");
        Due.read(x, "in a;out a" + "*a".repeat(12) + ";");
        x.key(99991, 1000, 10);
        x.parts(0, 6, 3, 1);
        x.spoil(0, 6, 1);
        x.mask(0, 5, 1);
        for (int i = 0; i < 6; i++) {
            x.given(i, 0);
        }
        return x;
    }

    private static int round(SealedSums x, int seed) {
        int sum = x.differ(0, 1) + x.best(2, 0) + x.even(0, 5, 16) + x.who(0) + x.joined(0, 63) + x.openly(0, 0, seed);
        sum += x.run(2, 0, seed) + x.work(2, 0, 0) + x.checks(20, 3, 7, 1) + x.opening(0, 0, seed);
        for (int i = 0; i < 100; i++) {
            x.feed(0x28282828, 0x28282828, 0x28282828, 0x28282828, 0x28282828);
        }
        return sum + x.read();
    }

    public static void main(String[] args) {
        Due due = new Due();
        due.topic("the room");
        // The first object of all brings its classes with it, which are not its own room.
        new SealedSums(13).read();
        long before = bytes();
        SealedSums first = new SealedSums(13);
        long made = bytes() - before;
        due.is("an object takes 40,000 bytes at most, it is " + made, made <= 40000, true);
        due.is("it is there", first.count(5), 13);
        SealedSums x = dear();
        int sum = round(x, 0);
        before = bytes();
        for (int seed = 1; seed < 5; seed++) {
            sum += round(x, seed);
        }
        long spent = bytes() - before;
        due.is("444 calls take 4,000 bytes at most, it is " + spent, spent <= 4000, true);
        due.is("they answered " + sum, sum > 0, true);
        due.end();
    }
}
