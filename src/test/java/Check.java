import java.nio.charset.StandardCharsets;
import java.util.NoSuchElementException;

/** What the tests share: texts put on the tape, answers compared, the count at the end. */
final class Check {
    /** A call that may throw. */
    interface Call {
        int answer();
    }

    private final String name;
    private int right;
    private int wrong;

    Check(String name) {
        this.name = name;
    }

    void due(String what, long want, long got) {
        if (want == got) {
            right++;
        } else {
            wrong++;
            System.out.println(name + ": " + what + " answered " + got + ", due is " + want);
        }
    }

    void yes(String what, boolean got) {
        due(what, 1, got ? 1 : 0);
    }

    void no(String what, boolean got) {
        due(what, 0, got ? 1 : 0);
    }

    /** The call must throw NoSuchElementException and nothing else. */
    void missing(String what, Call call) {
        try {
            int got = call.answer();
            wrong++;
            System.out.println(name + ": " + what + " answered " + got + ", due is NoSuchElementException");
        } catch (NoSuchElementException e) {
            right++;
        }
    }

    void finish() {
        System.out.println(name + ": " + right + " answers as due, " + wrong + " not");
        if (wrong != 0 || right == 0) {
            System.exit(1);
        }
    }

    static void tape(TruthCord x, int... bytes) {
        x.end(0);
        for (int i = 0; i < bytes.length; i += 20) {
            int[] five = new int[5];
            for (int k = 0; k < 20 && i + k < bytes.length; k++) {
                five[k / 4] |= (bytes[i + k] & 255) << 24 - k % 4 * 8;
            }
            x.feed(five[0], five[1], five[2], five[3], five[4]);
        }
        x.end(bytes.length);
    }

    static void tape(TruthCord x, String text) {
        byte[] bytes = text.getBytes(StandardCharsets.ISO_8859_1);
        int[] numbers = new int[bytes.length];
        for (int i = 0; i < bytes.length; i++) {
            numbers[i] = bytes[i] & 255;
        }
        tape(x, numbers);
    }

    static int valley(TruthCord x, String text) {
        tape(x, text);
        return x.valley();
    }

    static int book(TruthCord x, String text) {
        tape(x, text);
        return x.book();
    }

    static int sentence(TruthCord x, String text) {
        tape(x, text);
        return x.sentence();
    }

    static TruthCord with(String valley, String book) {
        TruthCord x = new TruthCord();
        if (valley(x, valley) < 0) {
            throw new IllegalStateException("the test's own valley is refused: " + valley);
        }
        if (book(x, book) < 0) {
            throw new IllegalStateException("the test's own book is refused: " + book);
        }
        return x;
    }

    /** A FAULT of this kind at this place; the tape is empty then. */
    void fault(String what, int kind, int place, int answered, TruthCord x) {
        due(what, -1 - place, answered);
        due(what + ", its kind", kind, x.fault());
        due(what + ", the tape", 0, x.count(9));
    }

    static String times(String text, int many) {
        StringBuilder all = new StringBuilder();
        for (int i = 0; i < many; i++) {
            all.append(text);
        }
        return all.toString();
    }
}
