import java.nio.charset.StandardCharsets;
import java.util.NoSuchElementException;

/** What the tests share: answers held against what is due, and texts put on the tape. */
final class Due {
    private int wrong = 0;
    private int asked = 0;
    private String topic = "";

    void topic(String name) {
        topic = name;
    }

    void is(String call, long got, long want) {
        asked++;
        if (got != want) {
            wrong++;
            if (wrong <= 50) {
                System.out.println(topic + ": " + call + " answered " + got + ", due is " + want);
            }
        }
    }

    void is(String call, boolean got, boolean want) {
        is(call, got ? 1 : 0, want ? 1 : 0);
    }

    void end() {
        System.out.println(asked + " answers asked, " + wrong + " not as due");
        if (wrong != 0 || asked == 0) {
            System.exit(1);
        }
    }

    static final int NO_SUCH = Integer.MIN_VALUE;
    static final int NO_WHAT = Integer.MIN_VALUE + 1;

    static int sealed(SealedSums sums, int a, int what) {
        try {
            return sums.sealed(a, what);
        } catch (NoSuchElementException e) {
            return NO_SUCH;
        } catch (IllegalArgumentException e) {
            return NO_WHAT;
        }
    }

    /** The text's bytes, behind what is on the tape; answers the last call's answer. */
    static int feed(SealedSums sums, String text) {
        byte[] bytes = text.getBytes(StandardCharsets.ISO_8859_1);
        int answer = sums.back(0);
        for (int i = 0; i < bytes.length; i += 20) {
            int[] words = new int[5];
            for (int j = 0; j < 20; j++) {
                int b = i + j < bytes.length ? bytes[i + j] & 255 : ' ';
                words[j / 4] = words[j / 4] << 8 | b;
            }
            answer = sums.feed(words[0], words[1], words[2], words[3], words[4]);
        }
        int spare = (20 - bytes.length % 20) % 20;
        return spare == 0 ? answer : sums.back(spare);
    }

    static int read(SealedSums sums, String text) {
        feed(sums, text);
        return sums.read();
    }
}
