/** Promises 35 (image) and 36 (restore). */
final class ImageTest {
    private static final Check CHECK = new Check("ImageTest");
    private static final String ONE = "who a;who b;fact f 10 5 a;fact g 4 1 b;knows a f;knows a g;asks a f 3;moon 9;";
    private static final String TWO = "who z;who y;who x;fact q 6 2 z;fact r 3 3 y;fact s 2 1 z;since q r s;knows z q;knows z r;knows y r;old 1;";

    public static void main(String[] args) {
        TruthCord x = Check.with(ONE, "day 2;a lies b f;a sells b g 3;");
        Check.sentence(x, "owes > 5");
        for (int k : new int[] {-1, 2, Integer.MIN_VALUE, Integer.MAX_VALUE}) {
            CHECK.no("35 image(" + k + ")", x.image(k));
            CHECK.no("36 restore(" + k + ")", x.restore(k));
        }
        CHECK.no("36 nothing is kept", x.restore(0));
        CHECK.no("36 nothing is kept", x.restore(1));
        CHECK.yes("35 image(0)", x.image(0));
        CHECK.no("36 nothing is kept in place 1", x.restore(1));
        isOne("35 nothing changes", x);

        Check.valley(x, TWO);
        Check.book(x, "z lies y q with x;z tells x q;y tells x r;day 50;z lies y q;");
        CHECK.yes("35 image(1)", x.image(1));
        isTwo("35 nothing changes", x);
        Check.tape(x, 1, 2, 2, 1);
        CHECK.yes("36 restore(0)", x.restore(0));
        isOne("36 restore(0)", x);
        CHECK.due("36 the tape stays", 37, x.read());
        CHECK.yes("36 restore(1)", x.restore(1));
        isTwo("36 restore(1)", x);
        CHECK.due("36 names are as kept", 1, Check.book(x, "z lies x s;"));
        CHECK.due("36 another BOOK", 2, x.autumn(0));
        CHECK.yes("36 what is kept stays", x.restore(1));
        isTwo("36 restore(1) again", x);

        Check.sentence(x, "late");
        CHECK.yes("35 kept anew", x.image(0));
        CHECK.yes("36 restore(0)", x.restore(0));
        CHECK.due("36 with its SENTENCE", 0, x.said());
        x.drawn(30, 7);
        CHECK.yes("36 restore(0)", x.restore(0));
        CHECK.due("36 with its BOOK", 5, x.count(3));
        CHECK.yes("36 restore(1)", x.restore(1));
        isTwo("36 without the SENTENCE", x);
        empty();
        CHECK.finish();
    }

    private static void isOne(String what, TruthCord x) {
        int[] counts = {2, 2, 0, 3, 9, 5, 15, 5, 20};
        for (int i = 0; i < counts.length; i++) {
            CHECK.due(what + ", count(" + i + ")", counts[i], x.count(i));
        }
        CHECK.due(what + ", knows(1, 1)", 2, x.knows(1, 1));
        CHECK.due(what + ", debts()", 1, x.debts());
        CHECK.due(what + ", debt(0, 4)", 10, x.debt(0, 4));
        CHECK.due(what + ", the DAY", 2, x.autumn(6));
        CHECK.due(what + ", COINS", 3, x.came(0, 4));
        CHECK.due(what + ", said()", 1, x.said());
        CHECK.due(what + ", feast(0)", 1, x.feast(0));
        CHECK.due(what + ", feast(1)", 5, x.feast(1));
    }

    private static void isTwo(String what, TruthCord x) {
        int[] counts = {3, 3, 1, 5, 28, 1, 15, 5, 20};
        for (int i = 0; i < counts.length; i++) {
            CHECK.due(what + ", count(" + i + ")", counts[i], x.count(i));
        }
        CHECK.due(what + ", x does not KNOW q at first", 1, x.wrong(0));
        CHECK.due(what + ", knows(2, 1)", 7, x.knows(2, 1));
        CHECK.due(what + ", debts()", 1, x.debts());
        CHECK.due(what + ", the DAY", 50, x.autumn(6));
        CHECK.due(what + ", HURT", 5, x.autumn(4));
        CHECK.due(what + ", said()", TruthCord.NONE, x.said());
        CHECK.due(what + ", feast(0)", 0, x.feast(0));
    }

    private static void empty() {
        TruthCord x = new TruthCord();
        CHECK.yes("35 an empty VALLEY is kept", x.image(1));
        Check.valley(x, ONE);
        Check.book(x, "a lies b f;");
        CHECK.fault("5 a fault", 1, 0, Check.book(x, "5"), x);
        CHECK.yes("36 restore(1)", x.restore(1));
        CHECK.due("36 PEOPLE", 0, x.count(0));
        CHECK.due("36 LINES", 0, x.count(3));
        CHECK.due("36 DEBTS", 0, x.debts());
        CHECK.due("36 moon", 28, x.count(4));
        CHECK.due("36 fault() tells the latest text's", 1, x.fault());
        CHECK.no("36 restore(0)", x.restore(0));
    }
}
