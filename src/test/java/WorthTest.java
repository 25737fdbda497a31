/** Promises 14 (worth), 21 (terms), 22 (source) and 23 (led). */
final class WorthTest {
    private static final Check CHECK = new Check("WorthTest");
    private static final String VALLEY = "who a;who b;who c;fact f 9 5 a;fact g 9 3 b;fact h 7 1 c;fact i 5 5 c;"
        + "knows a f;knows a g;knows a h;knows c h;knows c i;";

    public static void main(String[] args) {
        worth();
        terms();
        source();
        led();
        CHECK.finish();
    }

    private static void worth() {
        TruthCord x = Check.with(VALLEY, "");
        CHECK.due("14 about oneself", 9, x.worth(0, 0));
        CHECK.due("14 a secret, cut", 13, x.worth(0, 1));
        CHECK.due("14 another one KNOWS it", 7, x.worth(0, 2));
        CHECK.due("14 about oneself, known to another one", 7, x.worth(2, 2));
        CHECK.due("14 does not KNOW it", TruthCord.NONE, x.worth(1, 1));
        Check.book(x, "b tells a i;c tells a h;");
        CHECK.due("14 a WRONG LINE makes nothing old", 7, x.worth(0, 2));
        Check.book(x, "a tells c g;c sells b h 5;");
        CHECK.due("14 told, cut", 4, x.worth(0, 1));
        CHECK.due("14 told, for whom it was told", 4, x.worth(2, 1));
        CHECK.due("14 sold, cut", 3, x.worth(0, 2));
        CHECK.due("14 sold", 3, x.worth(1, 2));
        x = Check.with(VALLEY + "since f g i;", "c sells b i 0;");
        CHECK.due("14 what follows was not told", 2, x.worth(0, 3));
        x = Check.with(VALLEY + "since g h i;", "a sells c g 0;");
        CHECK.due("14 what follows was not told", 5, x.worth(0, 3));
        x = Check.with(VALLEY + "old 0;secret 30;", "c tells b i;");
        CHECK.due("14 'old' 0", 0, x.worth(2, 3));
        CHECK.due("14 'secret' 30", 27, x.worth(0, 1));
        int[][] none = {{3, 0}, {-1, 0}, {0, 4}, {0, -1}, {Integer.MIN_VALUE, 0}, {0, Integer.MAX_VALUE}};
        for (int[] pair : none) {
            CHECK.due("14 worth(" + pair[0] + ", " + pair[1] + ")", TruthCord.NONE, x.worth(pair[0], pair[1]));
        }
    }

    private static void terms() {
        int none = -10000;
        TruthCord x = Check.with(VALLEY + "moon 10;", "day 4;a lies b f;day 6;a lies b g;c lies b i;day 7;");
        CHECK.due("21 the first one", 4 + 10 + 1 - 7, x.terms(0));
        CHECK.due("21 another one's", 6 + 10 + 1 - 7, x.terms(2));
        CHECK.due("21 no DEBT", none, x.terms(1));
        for (int who : new int[] {-1, 3, 8, Integer.MIN_VALUE, Integer.MAX_VALUE}) {
            CHECK.due("21 terms(" + who + ")", none, x.terms(who));
        }
        Check.book(x, "day 4;a lies b f;day 6;a lies b g;day 17;a tells c g;day 30;");
        CHECK.due("21 the first is paid", 6 + 10 + 1 - 30, x.terms(0));
        Check.book(x, "day 4;a lies b f;day 14;");
        CHECK.due("21 a DAY is left", 1, x.terms(0));
        CHECK.due("21 not LATE", 0, x.debt(0, 8));
        Check.book(x, "day 4;a lies b f;day 15;");
        CHECK.due("21 below 1", 0, x.terms(0));
        CHECK.due("21 LATE", 1, x.debt(0, 8));
        Check.book(x, "a lies b f;a tells c g;");
        CHECK.due("21 all is paid", none, x.terms(0));
    }

    private static void source() {
        TruthCord x = Check.with(VALLEY + "since h i g;", "b tells a f;a tells b h;c tells b h;c sells b i 4;a tells c f;");
        int[][] want = {{-1, -1, -1, -1}, {-1, 3, 1, 3}, {4, -1, -1, -1}};
        for (int who = 0; who < 3; who++) {
            for (int f = 0; f < 4; f++) {
                CHECK.due("22 source(" + who + ", " + f + ")", want[who][f], x.source(who, f));
            }
        }
        CHECK.due("22 it follows at first", 14, x.knows(2, 0));
        int[][] none = {{3, 0}, {-1, 0}, {1, 4}, {1, -1}, {Integer.MAX_VALUE, 2}, {1, Integer.MIN_VALUE}};
        for (int[] pair : none) {
            CHECK.due("22 source(" + pair[0] + ", " + pair[1] + ")", TruthCord.NONE, x.source(pair[0], pair[1]));
        }
    }

    private static void led() {
        TruthCord x = Check.with(VALLEY + "old 10;", "a hides b f;c hides b i;a hides b g;a tells b g;a tells b h;c tells a i;");
        CHECK.due("23 led(g)", 1, x.led(1, -1));
        CHECK.due("23 led(g, 0)", 0, x.led(1, 0));
        CHECK.due("23 led(h)", 0, x.led(2, -1));
        CHECK.due("23 led(i, 0)", 1, x.led(3, 0));
        CHECK.due("23 led(f)", 0, x.led(0, -1));
        CHECK.due("23 led(f, 0)", TruthCord.NONE, x.led(0, 0));
        x = Check.with(VALLEY + "old 10;found 10;knows b i;who d;who e;",
            "c lies a i;b lies a i;b lies d i;c lies e i;b tells d i;c tells e i;b tells a i;");
        // they are paid as 1, 0, 2 and counted as they came
        CHECK.due("23 three of them", 3, x.led(3, -1));
        CHECK.due("23 the first", 0, x.led(3, 0));
        CHECK.due("23 the second", 1, x.led(3, 1));
        CHECK.due("23 the third", 2, x.led(3, 2));
        CHECK.due("23 no fourth", TruthCord.NONE, x.led(3, 3));
        for (int k : new int[] {-2, 4, Integer.MIN_VALUE, Integer.MAX_VALUE}) {
            CHECK.due("23 led(3, " + k + ")", TruthCord.NONE, x.led(3, k));
        }
        for (int f : new int[] {-1, 4, 12, Integer.MIN_VALUE, Integer.MAX_VALUE}) {
            CHECK.due("23 led(" + f + ", -1)", TruthCord.NONE, x.led(f, -1));
            CHECK.due("23 led(" + f + ", 0)", TruthCord.NONE, x.led(f, 0));
        }
    }
}
