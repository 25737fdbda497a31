/** Promises 1 (a new object), 2 (feed), 3 (end) and 37 (count). */
final class TapeTest {
    private static final Check CHECK = new Check("TapeTest");

    public static void main(String[] args) {
        newObject();
        feed();
        end();
        count();
        CHECK.finish();
    }

    private static void newObject() {
        TruthCord x = new TruthCord();
        for (int what = 0; what < 4; what++) {
            CHECK.due("1 count(" + what + ")", 0, x.count(what));
        }
        CHECK.due("1 count(9)", 0, x.count(9));
        CHECK.due("1 fault()", 0, x.fault());
        CHECK.due("1 debts()", 0, x.debts());
        CHECK.due("1 said()", TruthCord.NONE, x.said());
        CHECK.due("1 orderAt(0)", TruthCord.NONE, x.orderAt(0));
        CHECK.due("1 wrong(0)", TruthCord.NONE, x.wrong(0));
        CHECK.due("1 knows(0, 1)", TruthCord.NONE, x.knows(0, 1));
        CHECK.no("1 restore(0)", x.restore(0));
        CHECK.no("1 restore(1)", x.restore(1));
        CHECK.due("1 NONE", -1, TruthCord.NONE);
        TruthCord y = new TruthCord();
        x.feed(0, 0, 0, 0, 0);
        CHECK.due("1 the tape of another object", 0, y.count(9));
    }

    private static void feed() {
        TruthCord x = new TruthCord();
        // "who " "a;wh" "o b;" "who " "c;  ": the highest byte of each number first
        CHECK.due("2 feed", 20, x.feed(0x77686f20, 0x613b7768, 0x6f20623b, 0x77686f20, 0x633b2020));
        CHECK.due("2 valley of what was fed", 3, x.valley());
        for (int i = 1; i <= 47; i++) {
            CHECK.due("2 feed " + i, 20 * i, x.feed(-1, -1, -1, -1, -1));
        }
        CHECK.due("2 feed beyond 940", TruthCord.NONE, x.feed(0, 0, 0, 0, 0));
        CHECK.due("2 none came", 940, x.count(9));
        x.end(921);
        CHECK.due("2 feed of 20 behind 921", TruthCord.NONE, x.feed(0, 0, 0, 0, 0));
        CHECK.due("2 none came", 921, x.count(9));
        x.end(920);
        CHECK.due("2 feed of 20 behind 920", 940, x.feed(0, 0, 0, 0, 0));
        x.end(0);
        // bytes of 128 and more are no KNOTS, and do not become less than 0
        CHECK.due("2 feed", 20, x.feed(0x80ff0000, 0, 0, 0, 0));
        x.end(4);
        CHECK.due("2 a byte of 128", -2, x.read());
    }

    private static void end() {
        TruthCord x = new TruthCord();
        CHECK.yes("3 end(0) of an empty tape", x.end(0));
        CHECK.no("3 end(1) of an empty tape", x.end(1));
        CHECK.no("3 end(-1)", x.end(-1));
        x.feed(0x01020201, 7, 7, 7, 7);
        CHECK.no("3 end(21)", x.end(21));
        CHECK.due("3 it stays", 20, x.count(9));
        CHECK.yes("3 end(20)", x.end(20));
        CHECK.no("3 end(-1)", x.end(-1));
        CHECK.no("3 end(the least int)", x.end(Integer.MIN_VALUE));
        CHECK.no("3 end(the greatest int)", x.end(Integer.MAX_VALUE));
        CHECK.yes("3 end(4)", x.end(4));
        CHECK.no("3 end(5) of 4", x.end(5));
        CHECK.due("3 count(9)", 4, x.count(9));
        CHECK.due("3 the first ones are there", 37, x.read());
    }

    private static void count() {
        TruthCord x = new TruthCord();
        int[] untold = {28, 5, 15, 5, 20};
        for (int i = 0; i < 5; i++) {
            CHECK.due("37 count(" + (4 + i) + ") without", untold[i], x.count(4 + i));
        }
        CHECK.due("37 count(-1)", TruthCord.NONE, x.count(-1));
        CHECK.due("37 count(10)", TruthCord.NONE, x.count(10));
        CHECK.due("37 count(the least int)", TruthCord.NONE, x.count(Integer.MIN_VALUE));
        CHECK.due("37 valley", 12, Check.valley(x, "who a;who b;fact f 1 0 a;fact g 2 0 a;fact h 3 0 b;since f g h;"
            + "moon 7;old 3;secret 21;silent 20;found 40;knows a f;"));
        int[] want = {2, 3, 1, 0, 7, 3, 21, 20, 40, 0};
        for (int i = 0; i < want.length; i++) {
            CHECK.due("37 count(" + i + ")", want[i], x.count(i));
        }
        CHECK.due("37 book", 2, Check.book(x, "day 1;a tells b f;"));
        CHECK.due("37 count(3)", 2, x.count(3));
        x.feed(1, 2, 3, 4, 5);
        CHECK.due("37 count(9)", 20, x.count(9));
        x.end(0);
        CHECK.due("37 an empty valley", 0, x.valley());
        CHECK.due("37 count(3) of a new valley", 0, x.count(3));
        CHECK.due("37 count(4) of a new valley", 28, x.count(4));
    }
}
