/** Promises 24 (order), 25 (orderAt), 26 (ripple) and 27 (unsaid). */
final class OrderTest {
    private static final Check CHECK = new Check("OrderTest");
    private static final String VALLEY = "who a;who b;who c;fact f 10 5 c;fact g 6 1 b;fact h 30 0 a;"
        + "knows a f;knows a g;knows c h;silent 10;found 20;";

    public static void main(String[] args) {
        order();
        notAsTold();
        ripple();
        unsaid();
        CHECK.finish();
    }

    private static void ordered(String what, TruthCord x, int[] tape, int owed, int... turns) {
        int before = x.autumn(0);
        int debts = x.debts();
        Check.tape(x, tape);
        CHECK.due("24 " + what, owed, x.order());
        CHECK.due("24 the tape then", 0, x.count(9));
        for (int i = 0; i < turns.length; i++) {
            CHECK.due("25 " + what + ", " + i, turns[i], x.orderAt(i));
        }
        CHECK.due("25 no such one", TruthCord.NONE, x.orderAt(turns.length));
        CHECK.due("25 orderAt(-1)", TruthCord.NONE, x.orderAt(-1));
        CHECK.due("24 the BOOK is as it was", before, x.autumn(0));
        CHECK.due("24 its DEBTS, too", debts, x.debts());
        CHECK.due("24 no SOURCE behind the BOOK", TruthCord.NONE, x.source(1, 0));
    }

    private static void order() {
        TruthCord x = Check.with(VALLEY, "a lies b g;a lies c f;");
        CHECK.due("25 ahead of any", TruthCord.NONE, x.orderAt(0));
        // f is worth 15, g 9: f first pays 6 (of g), then g can't pay 10; g first pays 6, f 10
        ordered("g first", x, new int[] {0, 1, 0, 0, 1, 1}, 0, 1, 0);
        ordered("as told", x, new int[] {0, 1, 1, 0, 1, 0}, 0, 0, 1);
        ordered("one alone", x, new int[] {0, 2, 1}, 10, 0);
        ordered("all of like worth: the first", Check.with(VALLEY, ""),
            new int[] {0, 1, 0, 0, 1, 1, 2, 1, 2, 0, 2, 1, 2, 0, 2}, 0, 0, 1, 2, 3, 4);
        // b can tell g only behind a's telling
        ordered("the fewest WRONG", x, new int[] {1, 2, 1, 0, 1, 1}, 10, 1, 0);
        ordered("the least OWED goes ahead of it", Check.with(VALLEY + "old 1;", "a lies c f;"),
            new int[] {1, 2, 1, 0, 1, 1, 0, 1, 0}, 0, 1, 0, 2);
        ordered("WRONG ones do nothing", x, new int[] {1, 0, 2, 2, 0, 0, 1, 2, 1}, 16, 0, 1, 2);
        ordered("the same twice: the latter is WRONG", x, new int[] {0, 2, 1, 0, 2, 1}, 10, 0, 1);
        ordered("what is FOUND grows", Check.with(VALLEY + "old 0;", "a lies b g;a lies b f;a sells c f 0;a sells c g 0;"),
            new int[] {0, 1, 0}, 26, 0);
        // each can tell it only behind the next one's telling: the last of all 120 orders
        ordered("the last order", Check.with("who a;who b;who c;who d;who e;who x;fact q 1 1 a;fact f 1 1 a;knows a f;", ""),
            new int[] {4, 5, 1, 3, 4, 1, 2, 3, 1, 1, 2, 1, 0, 1, 1}, 0, 4, 3, 2, 1, 0);
        ordered("without a BOOK", Check.with(VALLEY, ""), new int[] {0, 1, 0}, 0, 0);
    }

    private static void notAsTold() {
        TruthCord x = Check.with(VALLEY, "a lies b g;a lies c f;");
        ordered("g first", x, new int[] {0, 1, 0, 0, 1, 1}, 0, 1, 0);
        int[][] tapes = {{}, {0}, {0, 1}, {0, 1, 0, 0}, {0, 1, 0, 0, 1}, {0, 0, 0}, {0, 3, 0}, {3, 0, 0}, {0, 1, 3}, {255, 1, 0}, {0, 1, 255},
            {0, 1, 0, 0, 1, 1, 2, 1, 2, 0, 2, 1, 0, 2, 0, 0, 1, 0}, {0, 1, 0, 1, 1, 0}};
        for (int[] tape : tapes) {
            Check.tape(x, tape);
            CHECK.due("24 a tape of " + tape.length, TruthCord.NONE, x.order());
            CHECK.due("24 it is empty then", 0, x.count(9));
            CHECK.due("25 the latest that was not NONE", 1, x.orderAt(0));
            CHECK.due("25 the latest that was not NONE", 0, x.orderAt(1));
        }
        x.image(0);
        Check.tape(x, 0, 2, 1);
        x.order();
        x.restore(0);
        CHECK.due("25 it stays with restore()", 0, x.orderAt(0));
        CHECK.due("25 it stays with restore()", TruthCord.NONE, x.orderAt(1));
        Check.valley(x, "");
        CHECK.due("25 it stays with a new VALLEY", 0, x.orderAt(0));
        for (int i : new int[] {5, Integer.MIN_VALUE, Integer.MAX_VALUE}) {
            CHECK.due("25 orderAt(" + i + ")", TruthCord.NONE, x.orderAt(i));
        }
        Check.tape(x, 0, 1, 0);
        CHECK.due("24 nobody is there", TruthCord.NONE, x.order());
    }

    private static void ripple() {
        TruthCord x = Check.with(VALLEY + "since f g h;since h f g;knows b h;",
            "a lies b f;a lies b g;a lies c g;a lies c f;");
        CHECK.due("26 a KNOWS h by f and g", 7, x.knows(0, 0));
        int[][] calls = {{0, 1, 0, 0, 3}, {0, 1, 0, 1, 2}, {0, 1, 0, 2, 32 + 16}, {0, 1, 1, 0, 2}, {0, 1, 1, 1, 1}, {0, 1, 1, 2, 32 + 6},
            {0, 2, 0, 0, 3}, {0, 2, 0, 1, 2}, {0, 2, 0, 2, 32 + 16}, {0, 2, 1, 0, 2}, {0, 1, 2, 0, -1}, {1, 2, 0, 0, -1}, {1, 0, 2, 2, -1}};
        for (int[] c : calls) {
            CHECK.due("26 ripple(" + c[0] + ", " + c[1] + ", " + c[2] + ", " + c[3] + ")", c[4], x.ripple(c[0], c[1], c[2], c[3]));
        }
        int[][] none = {{0, 1, 0, 3}, {0, 1, 0, -1}, {3, 1, 0, 0}, {-1, 1, 0, 0}, {0, 3, 0, 0}, {0, -1, 0, 0}, {0, 1, 3, 0}, {0, 1, -1, 0},
            {0, 0, 0, 0}, {1, 1, 0, 0}, {Integer.MAX_VALUE, 1, 0, 0}, {0, Integer.MIN_VALUE, 0, 0}, {0, 1, Integer.MAX_VALUE, 0}};
        for (int[] c : none) {
            CHECK.due("26 ripple(" + c[0] + ", " + c[1] + ", " + c[2] + ", " + c[3] + ")", -1, x.ripple(c[0], c[1], c[2], c[3]));
        }
        CHECK.due("26 nothing is told by it", 32, x.autumn(0));
        // the lie about g is paid: FOUND or not, it is not counted
        x = Check.with(VALLEY, "a lies b g;a tells c g;");
        CHECK.due("26 a paid one", 0, x.ripple(0, 1, 1, 1));
        CHECK.due("26 what is OWED then", 0, x.ripple(0, 1, 1, 2));
        // f would pay, but nothing is paid
        x = Check.with(VALLEY + "who d;", "a lies b f;");
        CHECK.due("26 nothing is paid", 10, x.ripple(0, 2, 0, 2));
        CHECK.due("26 to b it is FOUND", 20, x.ripple(0, 1, 0, 2));
    }

    private static void unsaid() {
        TruthCord x = Check.with(VALLEY, "day 3;a lies b g;a lies c f;a tells b g;a sells c f 5;c lies b f;a hides b f;");
        // 6 is paid by g; 10 is found by c: 20; c lies, as it KNOWS f: 10; a hides: 10
        CHECK.due("27 OWED with all", 40, x.autumn(0));
        // without LINE 1 g (worth 9) pays nothing: 10 is above it; without LINE 4 LINE 5 is WRONG
        int[] want = {40, 40, 20, 46, 20, 30, 30};
        for (int i = 0; i < want.length; i++) {
            CHECK.due("27 unsaid(" + i + ")", want[i], x.unsaid(i));
        }
        for (int i : new int[] {-1, 7, 60, Integer.MIN_VALUE, Integer.MAX_VALUE}) {
            CHECK.due("27 unsaid(" + i + ")", TruthCord.NONE, x.unsaid(i));
        }
        CHECK.due("27 the BOOK is as it was", 40, x.autumn(0));
        CHECK.due("27 its LINES, too", 7, x.count(3));
        CHECK.due("27 nothing is WRONG", 0, x.wrong(5));
    }
}
