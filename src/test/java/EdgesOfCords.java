/** Boundary cases of CORDS and of the hand that errs: promises 28 to 32. */
final class EdgesOfCords {
    private static final int[] FAR = {Integer.MIN_VALUE, -25, 126, 1000, Integer.MAX_VALUE};

    private final Edges edges;
    private final TruthCord x = new TruthCord();

    private EdgesOfCords(Edges edges) {
        this.edges = edges;
    }

    static void run(Edges edges) {
        EdgesOfCords all = new EdgesOfCords(edges);
        all.cord();
        all.readings();
        all.near();
        all.measured();
        all.slips();
    }

    private void cord(int length, int... knots) {
        edges.all("of " + length, knots, x.cord(length, 0), x.cord(length, 1), x.cord(length, 2), x.cord(length, 3));
    }

    private void cord() {
        edges.about("A CORD of a length L (0 to 124): L in fives, three digits (the highest first), each as many KNOTS, and a fourth one that checks: "
            + "the first, twice the second and three times the third, their rest by 5.", 28);
        cord(0, 0, 0, 0, 0);
        cord(1, 0, 0, 1, 3);
        cord(4, 0, 0, 4, 2);
        cord(5, 0, 1, 0, 2);
        cord(24, 0, 4, 4, 0);
        cord(25, 1, 0, 0, 1);
        cord(37, 1, 2, 2, 1);
        cord(100, 4, 0, 0, 4);
        cord(123, 4, 4, 3, 1);
        cord(124, 4, 4, 4, 4);

        edges.about("KNOTS at place i (0 to 3); NONE: no such ones.", 28);
        edges.all("lengths", new int[] {-1, -1, 0, 4}, x.cord(-1, 0), x.cord(125, 0), x.cord(0, 0), x.cord(124, 0));
        edges.all("places", new int[] {-1, -1, 1}, x.cord(37, -1), x.cord(37, 4), x.cord(37, 3));
        for (int n : FAR) {
            edges.all("far away: " + n, new int[] {-1, -1}, x.cord(n, 0), x.cord(0, n));
        }
    }

    private int read(int... tape) {
        Check.tape(x, tape);
        return x.read();
    }

    private void readings() {
        edges.about("READ: four numbers of KNOTS (0 to 4): L, if the check is right.", 29);
        edges.all("right ones", new int[] {0, 124, 37, 1, 5, 25}, read(0, 0, 0, 0), read(4, 4, 4, 4), read(1, 2, 2, 1), read(0, 0, 1, 3), read(0, 1, 0, 2),
            read(1, 0, 0, 1));

        edges.about("READ, the tape's four bytes being KNOTS: the length; NONE: the check is not right; -2: not as told.", 29);
        edges.all("the check is not right", new int[] {-1, -1, -1, -1}, read(0, 0, 0, 1), read(0, 0, 0, 4), read(4, 4, 4, 3), read(1, 2, 2, 2));
        edges.all("too many KNOTS", new int[] {-2, -2, -2, -2}, read(5, 0, 0, 0), read(0, 5, 0, 0), read(0, 0, 5, 0), read(0, 0, 0, 5));
        edges.all("far too many", new int[] {-2, -2, -2, -2}, read(255, 0, 0, 0), read(0, 128, 0, 0), read(0, 0, 127, 0), read(0, 0, 0, 255));
        edges.all("not four bytes", new int[] {-2, -2, -2, -2, -2}, read(), read(0), read(0, 0, 0), read(0, 0, 0, 0, 0), read(1, 2, 2, 1, 0, 0, 0, 0));
        // what stood on the tape before is gone
        read(1, 2, 2, 1);
        edges.due("a shorter tape behind a good one", -2, read(1, 2, 2));
    }

    private int near(int k, int... tape) {
        Check.tape(x, tape);
        return x.near(k);
    }

    private void near() {
        edges.about("NEAR: lengths the CORDS of which are unlike in just one place, there by one KNOT.", 30);
        edges.all("none of a right CORD", new int[] {0, -1}, near(-1, 1, 2, 2, 1), near(0, 1, 2, 2, 1));
        edges.all("in the check and in the first place", new int[] {2, 37, 62}, near(-1, 1, 2, 2, 2), near(0, 1, 2, 2, 2), near(1, 1, 2, 2, 2));
        edges.all("in the second place", new int[] {1, 5, -1}, near(-1, 0, 0, 0, 2), near(0, 0, 0, 0, 2), near(1, 0, 0, 0, 2));
        edges.all("in the third place", new int[] {1, 1, -1}, near(-1, 0, 0, 0, 3), near(0, 0, 0, 0, 3), near(1, 0, 0, 0, 3));
        edges.all("the least length", new int[] {2, 0, 25}, near(-1, 0, 0, 0, 1), near(0, 0, 0, 0, 1), near(1, 0, 0, 0, 1));
        edges.all("the greatest length", new int[] {2, 99, 124}, near(-1, 4, 4, 4, 3), near(0, 4, 4, 4, 3), near(1, 4, 4, 4, 3));
        edges.all("no length of 125", new int[] {0, -1}, near(-1, 4, 0, 0, 0), near(0, 4, 0, 0, 0));
        edges.all("4 and 0 KNOTS are not one apart", new int[] {0, -1}, near(-1, 0, 0, 0, 4), near(0, 0, 0, 0, 4));
        edges.all("nor are 0 and 4", new int[] {0, -1}, near(-1, 4, 4, 4, 0), near(0, 4, 4, 4, 0));

        edges.about("NEAR, likewise: how many lengths (k NONE), or the k-th (rising) one. NONE: there is none such; -2: not as told.", 30);
        edges.all("the first, the second, no third", new int[] {37, 62, -1}, near(0, 1, 2, 2, 2), near(1, 1, 2, 2, 2), near(2, 1, 2, 2, 2));
        edges.due("near(-2)", -1, near(-2, 1, 2, 2, 2));
        for (int n : FAR) {
            edges.due("near(" + n + ")", -1, near(n, 1, 2, 2, 2));
        }
        edges.all("not four bytes", new int[] {-2, -2, -2, -2}, near(-1), near(-1, 0, 0, 0), near(0, 0, 0, 0), near(0, 0, 0, 0, 0, 0));
        edges.all("too many KNOTS", new int[] {-2, -2, -2, -2}, near(-1, 5, 0, 0, 0), near(0, 0, 5, 0, 0), near(9, 0, 0, 5, 0), near(-2, 0, 0, 0, 255));
    }

    private void measured() {
        edges.about("x becomes x * 1103515245 + 12345 (an int, wrapping), the draw is (x >>> 8) % n", 31, 32, 9);
        // by hand: seed 0 draws 8 8 5 8, seed 1 draws none below 2
        edges.all("none errs", new int[] {1221, 1221}, x.measured(37, 0), x.measured(37, 1));
        int[] seeds = {-1, -1000, Integer.MIN_VALUE, Integer.MAX_VALUE, 123456789, -987654321};
        for (int seed : seeds) {
            edges.due("measured(62, " + seed + ")", measuredBy(new long[] {seed}, 2, 2, 2, 2), x.measured(62, seed));
        }

        edges.about("place by place a draw of 10: 0: one KNOT more (4 at most), 1: one less (0 at least).", 31);
        // by hand: the seed draws a 0 (10, 9, 4, 15) or a 1 (2, 3, 5, 63) for one place alone, for all of them 5178 (0) and 905 (1)
        edges.all("one more in each place", new int[] {2221, 1321, 1231, 1222}, x.measured(37, 10), x.measured(37, 9), x.measured(37, 4), x.measured(37, 15));
        edges.all("one less in each place", new int[] {221, 1121, 1211, 1220}, x.measured(37, 2), x.measured(37, 3), x.measured(37, 5), x.measured(37, 63));
        edges.all("4 at most", new int[] {4444, 4444, 4444, 4444, 4444}, x.measured(124, 10), x.measured(124, 9), x.measured(124, 4), x.measured(124, 15),
            x.measured(124, 5178));
        edges.all("0 at least", new int[] {0, 0, 0, 0, 0}, x.measured(0, 2), x.measured(0, 3), x.measured(0, 5), x.measured(0, 63), x.measured(0, 905));
        edges.all("all of them", new int[] {1111, 3333, 2332, 110}, x.measured(0, 5178), x.measured(124, 905), x.measured(37, 5178), x.measured(37, 905));

        edges.about("MEASURED: the four numbers of KNOTS as one (the first by 1000, and so on); NONE: no such length.", 31);
        edges.all("lengths", new int[] {-1, -1, 0, 4444}, x.measured(-1, 0), x.measured(125, 0), x.measured(0, 0), x.measured(124, 0));
        for (int n : FAR) {
            edges.due("measured(" + n + ", 0)", -1, x.measured(n, 0));
        }
    }

    /** The draws once more, in long numbers: the lowest 32 bits are what wrapping leaves. */
    private static int measuredBy(long[] seed, int... knots) {
        int all = 0;
        for (int k : knots) {
            seed[0] = (seed[0] & 0xffffffffL) * 1103515245L + 12345L & 0xffffffffL;
            long slip = (seed[0] >> 8) % 10;
            int n = slip == 0 ? Math.min(4, k + 1) : slip == 1 ? Math.max(0, k - 1) : k;
            all = all * 10 + n;
        }
        return all;
    }

    private static int slipsBy(int length, int many, int seed) {
        long[] at = {seed};
        int slipped = 0;
        int a = length / 25;
        int b = length / 5 % 5;
        int c = length % 5;
        for (int i = 0; i < many; i++) {
            int got = measuredBy(at, a, b, c, (a + 2 * b + 3 * c) % 5);
            boolean right = (got / 1000 + got / 100 % 10 * 2 + got / 10 % 10 * 3) % 5 == got % 10;
            slipped += right && got / 10 != a * 100 + b * 10 + c ? 1 : 0;
        }
        return slipped;
    }

    private void slips() {
        edges.about("SLIPS: of so many (1 to 1000) MEASURINGS one behind the other: how many READ to another length.", 32);
        edges.due("one that does not err", 0, x.slips(37, 1, 0));
        edges.due("one that errs in one place READS to none", 0, x.slips(37, 1, 10));
        // 1221 becomes 2332, and 2 + 2 * 3 + 3 * 3 has the rest 2: it READS to 68
        edges.due("one that READS to another length", 1, x.slips(37, 1, 5178));
        edges.due("0000 becomes 1111, and READS to 31", 1, x.slips(0, 1, 5178));
        edges.due("0 at least: it READS to its own", 0, x.slips(0, 1, 905));
        for (int many = 1; many < 60; many++) {
            edges.due("slips(62, " + many + ", 7)", slipsBy(62, many, 7), x.slips(62, many, 7));
        }
        for (int many : new int[] {1, 2, 999, 1000}) {
            for (int length : new int[] {0, 37, 62, 124}) {
                edges.due("slips(" + length + ", " + many + ", 5178)", slipsBy(length, many, 5178), x.slips(length, many, 5178));
                edges.due("slips(" + length + ", " + many + ", -7)", slipsBy(length, many, -7), x.slips(length, many, -7));
            }
        }
        edges.yes("there are some of 1000", x.slips(62, 1000, 7) > 10);

        edges.about("SLIPS; NONE: not as told.", 32);
        edges.all("how many", new int[] {-1, -1, -1}, x.slips(37, 0, 1), x.slips(37, 1001, 1), x.slips(37, -1, 1));
        edges.all("lengths", new int[] {-1, -1}, x.slips(-1, 5, 1), x.slips(125, 5, 1));
        for (int n : FAR) {
            edges.due("slips(" + n + ", 5, 1)", -1, x.slips(n, 5, 1));
        }
        edges.all("far away", new int[] {-1, -1}, x.slips(37, Integer.MIN_VALUE, 1), x.slips(37, Integer.MAX_VALUE, 1));
    }
}
