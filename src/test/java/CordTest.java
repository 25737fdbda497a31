/** Promises 28 (cord), 29 (read), 30 (near), 31 (measured) and 32 (slips). */
final class CordTest {
    private static final Check CHECK = new Check("CordTest");

    public static void main(String[] args) {
        cord();
        read();
        near();
        measured();
        slips();
        CHECK.finish();
    }

    private static int[] knots(int length) {
        int a = length / 25;
        int b = length / 5 % 5;
        int c = length % 5;
        return new int[] {a, b, c, (a + 2 * b + 3 * c) % 5};
    }

    private static void cord() {
        TruthCord x = new TruthCord();
        int[][] want = {{0, 0, 0, 0}, {0, 0, 1, 3}, {0, 0, 4, 2}, {0, 1, 0, 2}, {1, 0, 0, 1}, {1, 2, 2, 1}, {4, 4, 4, 4}};
        int[] lengths = {0, 1, 4, 5, 25, 37, 124};
        for (int n = 0; n < lengths.length; n++) {
            for (int i = 0; i < 4; i++) {
                CHECK.due("28 cord(" + lengths[n] + ", " + i + ")", want[n][i], x.cord(lengths[n], i));
            }
        }
        int[][] none = {{-1, 0}, {125, 0}, {0, 4}, {0, -1}, {Integer.MIN_VALUE, 0}, {Integer.MAX_VALUE, 3}, {5, Integer.MAX_VALUE}};
        for (int[] pair : none) {
            CHECK.due("28 cord(" + pair[0] + ", " + pair[1] + ")", TruthCord.NONE, x.cord(pair[0], pair[1]));
        }
    }

    private static void read() {
        TruthCord x = new TruthCord();
        for (int length = 0; length < 125; length++) {
            int[] k = knots(length);
            Check.tape(x, k);
            CHECK.due("29 read() of " + length, length, x.read());
            k[3] = (k[3] + 1) % 5;
            Check.tape(x, k);
            CHECK.due("29 the check is not right", TruthCord.NONE, x.read());
            CHECK.due("29 the tape then", 0, x.count(9));
        }
        int[][] bad = {{}, {1}, {1, 2, 2}, {1, 2, 2, 1, 0}, {5, 0, 0, 0}, {0, 5, 0, 0}, {0, 0, 5, 0}, {0, 0, 0, 5}, {255, 0, 0, 0}};
        for (int[] tape : bad) {
            Check.tape(x, tape);
            CHECK.due("29 not as told", -2, x.read());
            CHECK.due("29 the tape then", 0, x.count(9));
            Check.tape(x, tape);
            CHECK.due("30 not as told", -2, x.near(0));
            CHECK.due("30 the tape then", 0, x.count(9));
        }
    }

    private static int near(TruthCord x, int k, int... tape) {
        Check.tape(x, tape);
        return x.near(k);
    }

    private static void near() {
        TruthCord x = new TruthCord();
        // a right CORD has no right one so near that one KNOT makes it
        CHECK.due("30 of a right one", 0, near(x, -1, 1, 2, 2, 1));
        CHECK.due("30 the first of none", -1, near(x, 0, 1, 2, 2, 1));
        CHECK.due("30 how many", 2, near(x, -1, 1, 2, 2, 2));
        CHECK.due("30 the first", 37, near(x, 0, 1, 2, 2, 2));
        CHECK.due("30 the second", 62, near(x, 1, 1, 2, 2, 2));
        CHECK.due("30 no third", -1, near(x, 2, 1, 2, 2, 2));
        CHECK.due("30 near(-2)", -1, near(x, -2, 1, 2, 2, 2));
        CHECK.due("30 near(the least int)", -1, near(x, Integer.MIN_VALUE, 1, 2, 2, 2));
        CHECK.due("30 near(the greatest int)", -1, near(x, Integer.MAX_VALUE, 1, 2, 2, 2));
        CHECK.due("30 unlike in the check", 0, near(x, 0, 0, 0, 0, 1));
        CHECK.due("30 unlike in the first place", 25, near(x, 1, 0, 0, 0, 1));
        for (int n = 0; n < 625; n++) {
            int[] tape = {n / 125, n / 25 % 5, n / 5 % 5, n % 5};
            int seen = 0;
            for (int length = 0; length < 125; length++) {
                int[] k = knots(length);
                int unlike = 0;
                int by = 0;
                for (int i = 0; i < 4; i++) {
                    unlike += k[i] != tape[i] ? 1 : 0;
                    by += Math.abs(k[i] - tape[i]);
                }
                if (unlike == 1 && by == 1) {
                    CHECK.due("30 the next", length, near(x, seen, tape));
                    seen++;
                }
            }
            CHECK.due("30 how many", seen, near(x, -1, tape));
            CHECK.due("30 behind the last", -1, near(x, seen, tape));
        }
    }

    private static void measured() {
        TruthCord x = new TruthCord();
        CHECK.due("31 measured(37, 1)", 1221, x.measured(37, 1));
        CHECK.due("31 measured(-1, 1)", TruthCord.NONE, x.measured(-1, 1));
        CHECK.due("31 measured(125, 1)", TruthCord.NONE, x.measured(125, 1));
        int more = 0;
        int less = 0;
        for (int seed = -300; seed < 300; seed++) {
            for (int length : new int[] {0, 37, 62, 124}) {
                int[] s = {seed * 7919};
                int want = measuredBy(s, length);
                CHECK.due("31 measured(" + length + ", " + seed * 7919 + ")", want, x.measured(length, seed * 7919));
                more += length == 0 && want > 0 ? 1 : 0;
                less += length == 124 && want < 4444 ? 1 : 0;
            }
        }
        CHECK.yes("31 some have more", more > 50);
        CHECK.yes("31 some have less", less > 50);
    }

    private static int measuredBy(int[] s, int length) {
        int all = 0;
        for (int k : knots(length)) {
            s[0] = s[0] * 1103515245 + 12345;
            int d = (s[0] >>> 8) % 10;
            int n = d == 0 && k < 4 ? k + 1 : d == 1 && k > 0 ? k - 1 : k;
            all = 10 * all + n;
        }
        return all;
    }

    private static void slips() {
        TruthCord x = new TruthCord();
        int[][] none = {{-1, 1}, {125, 1}, {5, 0}, {5, 1001}, {5, -1}, {5, Integer.MIN_VALUE}, {Integer.MAX_VALUE, 5}};
        for (int[] pair : none) {
            CHECK.due("32 slips(" + pair[0] + ", " + pair[1] + ", 1)", TruthCord.NONE, x.slips(pair[0], pair[1], 1));
        }
        int ever = 0;
        for (int length = 0; length < 125; length += 4) {
            for (int many : new int[] {1, 2, 100, 1000}) {
                int seed = length * 31 + many;
                int[] s = {seed};
                int want = 0;
                for (int i = 0; i < many; i++) {
                    int got = measuredBy(s, length);
                    int[] k = {got / 1000, got / 100 % 10, got / 10 % 10, got % 10};
                    int l = k[0] * 25 + k[1] * 5 + k[2];
                    want += knots(l)[3] == k[3] && l != length ? 1 : 0;
                }
                ever += want;
                CHECK.due("32 slips(" + length + ", " + many + ", " + seed + ")", want, x.slips(length, many, seed));
            }
        }
        CHECK.yes("32 there are some", ever > 100);
    }
}
