/** Promises 8 (book), 9 (drawn), 10 (line), 11 (wrong), 12 (debts), 13 (debt), 15 (came) and 16 (autumn). */
final class BookTest {
    private static final Check CHECK = new Check("BookTest");
    private static final String VALLEY = "who a;who b;who c;who d;fact f 10 5 a;fact g 7 3 b;fact h 20 9 d;"
        + "knows a f;knows b f;knows c f;knows a g;knows a h;knows b h;";
    private static final String BOOK = "a lies d f with c with b;a hides c g;day 3;a tells c g;c tells d g;b sells d f 12;"
        + "d lies a g;d hides c h;day 40;b tells d h;";

    public static void main(String[] args) {
        texts();
        faults();
        itStays();
        lines();
        wrongs();
        debts();
        shares();
        finding();
        late();
        sums();
        drawn();
        CHECK.finish();
    }

    private static void taken(String text, int lines) {
        TruthCord x = Check.with(VALLEY, "");
        CHECK.due("8 book '" + text + "'", lines, Check.book(x, text));
        CHECK.due("8 its fault", 0, x.fault());
        CHECK.due("8 the tape then", 0, x.count(9));
        CHECK.due("8 count(3)", lines, x.count(3));
    }

    private static void refused(String text, int kind, int place) {
        TruthCord x = Check.with(VALLEY, "");
        CHECK.fault("8 book '" + text + "'", kind, place, Check.book(x, text), x);
    }

    private static void texts() {
        taken("", 0);
        taken("day 0;", 1);
        taken("day 0;day 1;day 999;", 3);
        taken("a tells b f;day 1;", 2);
        taken("a\nlies b f with c with d;a lies b f;a hides b f;a sells b f 0;a sells b f 99;", 5);
        taken(Check.times("a tells b f;", 60), 60);
        taken("day 0;" + Check.times(" ", 894), 1);
    }

    private static void faults() {
        refused("day", 1, 3);
        refused("day a;", 1, 4);
        refused("day 5", 1, 5);
        refused("day 5 6;", 1, 6);
        refused("day 1000;", 1, 4);
        refused("day 0;day 0;", 2, 10);
        refused("a tells b f;day 0;", 2, 16);
        refused("day 5;a tells b f;day 5;", 2, 22);
        refused("day 5;day 4;", 2, 10);
        refused("tells a b f;", 1, 0);
        refused("who a;", 1, 0);
        refused("5;", 1, 0);
        refused(";", 1, 0);
        refused("z lies b f;", 3, 0);
        refused("f lies b f;", 3, 0);
        refused("a b f;", 1, 2);
        refused("a day b f;", 1, 2);
        refused("a knows b f;", 1, 2);
        refused("a with b f;", 1, 2);
        refused("a 5 b f;", 1, 2);
        refused("a tells", 1, 7);
        refused("a tells with f;", 1, 8);
        refused("a tells a f;", 3, 8);
        refused("a tells f f;", 3, 8);
        refused("a tells z f;", 3, 8);
        refused("a tells b c;", 3, 10);
        refused("a tells b 5;", 1, 10);
        refused("a tells b f 5;", 1, 12);
        refused("a tells b f with c;", 1, 12);
        refused("a hides b f with c;", 1, 12);
        refused("a sells b f;", 1, 11);
        refused("a sells b f 100;", 2, 12);
        refused("a sells b f 5 with c;", 1, 14);
        refused("a lies b f with;", 1, 15);
        refused("a lies b f with c d;", 1, 18);
        refused("a lies b f with a;", 3, 16);
        refused("a lies b f with b;", 3, 16);
        refused("a lies b f with c with c;", 3, 23);
        refused("a lies b f with f;", 3, 16);
        refused("a lies b f with day;", 1, 16);
        refused("a lies b f with c with d", 1, 24);
        String sixty = Check.times("a tells b f;", 60);
        refused(sixty + "a", 4, 720);
        refused(sixty + "day 1;", 4, 720);
        refused(sixty + "z tells a f;", 3, 720);
        refused(sixty + "f tells a f;", 3, 720);
        refused(sixty + "tells;", 1, 720);
        refused(sixty + " 7", 1, 721);
        refused("day 0;" + Check.times(" ", 895), 1, 900);
        refused("day 0;" + Check.times(" ", 893) + "z", 3, 899);
        refused("day 0;" + Check.times(" ", 894) + "z", 1, 900);
    }

    private static void itStays() {
        TruthCord x = Check.with(VALLEY, BOOK);
        CHECK.fault("8 a fault", 3, 0, Check.book(x, "z"), x);
        CHECK.due("8 it stays", 10, x.count(3));
        CHECK.due("8 its DEBTS stay", 4, x.debts());
        CHECK.due("8 half a book", -1 - 16, Check.book(x, "a lies d f;day 5"));
        CHECK.due("8 its DEBTS stay", 4, x.debts());
        CHECK.due("8 another book", 0, Check.book(x, ""));
        CHECK.due("8 no DEBTS then", 0, x.debts());
        CHECK.due("8 HURT is gone", 0, x.came(1, 3));
        CHECK.due("8 COINS are gone", 0, x.came(1, 4));
        CHECK.due("8 it KNOWS as at first", x.knows(3, 0), x.knows(3, 1));
        CHECK.due("8 SOURCE is gone", TruthCord.NONE, x.source(3, 0));
    }

    private static void lines() {
        TruthCord x = Check.with(VALLEY, BOOK);
        int[][] want = {{1, 0, 3, 0, 6}, {2, 0, 2, 1, 0}, {0, 3, -1, -1, 0}, {3, 0, 2, 1, 0}, {3, 2, 3, 1, 0},
            {4, 1, 3, 0, 12}, {1, 3, 0, 1, 0}, {2, 3, 2, 2, 0}, {0, 40, -1, -1, 0}, {3, 1, 3, 2, 0}};
        for (int i = 0; i < want.length; i++) {
            for (int what = 0; what < 5; what++) {
                CHECK.due("10 line(" + i + ", " + what + ")", want[i][what], x.line(i, what));
            }
        }
        int[][] none = {{10, 0}, {-1, 0}, {0, 5}, {0, -1}, {60, 0}, {Integer.MAX_VALUE, 0}, {Integer.MIN_VALUE, 0}};
        for (int[] pair : none) {
            CHECK.missing("10 line(" + pair[0] + ", " + pair[1] + ")", () -> x.line(pair[0], pair[1]));
        }
    }

    private static void wrongs() {
        TruthCord x = Check.with(VALLEY, BOOK);
        int[] want = {0, 0, 0, 0, 0, 0, 2, 1, 0, 0};
        for (int i = 0; i < want.length; i++) {
            CHECK.due("11 wrong(" + i + ")", want[i], x.wrong(i));
        }
        for (int i : new int[] {-1, 10, 60, Integer.MIN_VALUE, Integer.MAX_VALUE}) {
            CHECK.due("11 wrong(" + i + ")", TruthCord.NONE, x.wrong(i));
        }
        // both reasons: the least; one of those who lie is enough
        TruthCord y = Check.with(VALLEY, "d tells a f;c hides a h;a lies d h with b with c;a lies d h with b;a sells b h 5;a sells c h 5;");
        int[] reasons = {1, 1, 1, 0, 2, 0};
        for (int i = 0; i < reasons.length; i++) {
            CHECK.due("11 wrong(" + i + ") of the second", reasons[i], y.wrong(i));
        }
        CHECK.due("11 a WRONG sale moves nothing", 5, y.came(0, 4));
    }

    private static void debts() {
        TruthCord x = Check.with(VALLEY, BOOK);
        CHECK.due("12 debts()", 4, x.debts());
        // who, whom, FACT, at first, now, LINE, paid by, FOUND, LATE
        int[][] want = {{0, 3, 0, 4, 0, 0, 3, 1, 0}, {2, 3, 0, 4, 8, 0, -1, 1, 1}, {1, 3, 0, 4, 0, 0, 9, 1, 1},
            {0, 2, 1, 4, 8, 1, -1, 1, 1}};
        for (int d = 0; d < want.length; d++) {
            for (int what = 0; what < 9; what++) {
                CHECK.due("13 debt(" + d + ", " + what + ")", want[d][what], x.debt(d, what));
            }
        }
        int[][] none = {{4, 0}, {-1, 0}, {0, 9}, {0, -1}, {128, 0}, {Integer.MAX_VALUE, 0}, {Integer.MIN_VALUE, 0}};
        for (int[] pair : none) {
            CHECK.missing("13 debt(" + pair[0] + ", " + pair[1] + ")", () -> x.debt(pair[0], pair[1]));
        }
    }

    private static void shares() {
        String crowd = "who a;who b;who c;who d;who e;who f;who g;who h;fact x 1 0 a;fact y 99 0 a;fact z 8 0 a;"
            + "knows a x;knows b x;knows c x;knows d x;knows e x;knows f x;knows g x;knows a y;knows g y;knows f y;";
        // sixteen lies of seven and one of six are the most DEBTS that 900 bytes can make
        String seven = "a lies h x with g with f with e with d with c with b;";
        TruthCord x = Check.with(crowd, Check.times(seven, 16) + "a lies h x with g with f with e with d with c;");
        CHECK.due("12 the most DEBTS", 118, x.debts());
        for (int k = 1; k < 7; k++) {
            CHECK.due("12 in the order told", 7 - k, x.debt(k, 0));
        }
        CHECK.due("12 the last one", 2, x.debt(117, 0));
        CHECK.due("12 a KNOT by seven, cut up", 1, x.debt(117, 3));
        x = Check.with(crowd, "g lies h y with a;f lies h y;f lies h y with g with a;");
        int[][] want = {{6, 50}, {0, 50}, {5, 99}, {5, 33}, {6, 33}, {0, 33}};
        for (int d = 0; d < want.length; d++) {
            CHECK.due("13 who OWES", want[d][0], x.debt(d, 0));
            CHECK.due("13 how much", want[d][1], x.debt(d, 3));
        }
        String[] silent = {"silent 0;", "silent 1;", "", "silent 10;", "silent 13;", "silent 20;"};
        int[] owed = {0, 10, 50, 99, 129, 198};
        for (int i = 0; i < silent.length; i++) {
            x = Check.with(crowd + silent[i], "a hides h y;");
            CHECK.due("12 '" + silent[i] + "': a DEBT of 0 is none", owed[i] == 0 ? 0 : 1, x.debts());
            CHECK.due("13 '" + silent[i] + "'", owed[i], x.autumn(0));
        }
    }

    private static void finding() {
        String valley = "who a;who b;who c;fact f 9 5 a;fact g 5 3 b;fact h 7 1 c;knows a f;knows a g;knows a h;knows c h;"
            + "since f g h;found 15;silent 10;old 0;secret 10;";
        // g is hidden and told, h follows then, the lie about f is found first
        TruthCord x = Check.with(valley, "a lies b h;a lies b f;a lies b g;a lies c f;c sells b h 3;");
        CHECK.due("13 a sale finds", 11, x.debt(0, 4));
        CHECK.due("13 FOUND", 1, x.debt(0, 7));
        CHECK.due("13 another FACT", 0, x.debt(1, 7));
        x = Check.with(valley, "a lies b h;a lies b f;a lies b g;a lies c f;a sells b f 3;a sells b g 4;");
        CHECK.due("13 what follows is found", 11, x.debt(0, 4));
        CHECK.due("13 f", 14, x.debt(1, 4));
        CHECK.due("13 g", 8, x.debt(2, 4));
        CHECK.due("13 to another one", 9, x.debt(3, 4));
        CHECK.due("13 not FOUND", 0, x.debt(3, 7));
        CHECK.due("13 nothing is paid by a sale", TruthCord.NONE, x.debt(2, 6));
        CHECK.due("15 COINS", 7, x.came(0, 4));
        CHECK.due("15 COINS below 0", -7, x.came(1, 4));
        CHECK.due("15 a sale does not HURT", 0, x.autumn(4));
        // a truth pays first and is found then: the paid one is FOUND and stays paid
        x = Check.with(valley, "a lies b f;a tells b f;");
        CHECK.due("13 paid", 0, x.debt(0, 4));
        CHECK.due("13 by LINE 1", 1, x.debt(0, 6));
        CHECK.due("13 FOUND", 1, x.debt(0, 7));
        CHECK.due("13 what was owed at first", 9, x.debt(0, 3));
        // 9 is above the WORTH of g, which pays the second one
        x = Check.with(valley, "a lies b f;a lies c g;a lies c h;a lies b g;a tells b g;");
        CHECK.due("11 c KNOWS h", 2, x.wrong(2));
        CHECK.due("13 above its WORTH", 9, x.debt(0, 4));
        CHECK.due("13 the first that is not", 0, x.debt(1, 4));
        CHECK.due("13 FOUND and grown", 8, x.debt(2, 4));
    }

    private static void late() {
        String valley = "who a;who b;who c;fact f 9 5 a;fact g 9 3 b;knows a f;knows a g;moon 3;";
        String[] books = {"day 2;a lies b f;day 5;", "day 2;a lies b f;day 6;", "day 2;a lies b f;day 5;a tells c g;day 50;",
            "day 2;a lies b f;day 6;a tells c g;"};
        int[] want = {0, 1, 0, 1};
        for (int i = 0; i < books.length; i++) {
            TruthCord x = Check.with(valley, books[i]);
            CHECK.due("13 LATE in '" + books[i] + "'", want[i], x.debt(0, 8));
            CHECK.due("16 LATE ones", want[i], x.autumn(2));
        }
    }

    private static void sums() {
        TruthCord x = Check.with(VALLEY, BOOK);
        int[][] came = {{8, 2, 1, 0, 0}, {0, 1, 1, 6, 12}, {8, 1, 0, 0, 0}, {0, 0, 0, 9, -12}};
        for (int who = 0; who < 4; who++) {
            for (int what = 0; what < 5; what++) {
                CHECK.due("15 came(" + who + ", " + what + ")", came[who][what], x.came(who, what));
            }
        }
        int[][] none = {{4, 0}, {-1, 0}, {0, 5}, {0, -1}, {8, 0}, {Integer.MAX_VALUE, 0}, {Integer.MIN_VALUE, 0}};
        for (int[] pair : none) {
            CHECK.missing("15 came(" + pair[0] + ", " + pair[1] + ")", () -> x.came(pair[0], pair[1]));
        }
        int[] autumn = {16, 2, 3, 4, 15, 2, 40};
        for (int what = 0; what < 7; what++) {
            CHECK.due("16 autumn(" + what + ")", autumn[what], x.autumn(what));
        }
        for (int what : new int[] {-1, 7, Integer.MIN_VALUE, Integer.MAX_VALUE}) {
            CHECK.due("16 autumn(" + what + ")", TruthCord.NONE, x.autumn(what));
        }
    }

    private static void drawn() {
        TruthCord x = Check.with(VALLEY, BOOK);
        CHECK.due("9 drawn(0, 1)", TruthCord.NONE, x.drawn(0, 1));
        CHECK.due("9 drawn(61, 1)", TruthCord.NONE, x.drawn(61, 1));
        CHECK.due("9 drawn(-1, 1)", TruthCord.NONE, x.drawn(-1, 1));
        CHECK.due("9 it stays", 10, x.count(3));
        for (int seed : new int[] {0, 1, -1, 12345, Integer.MIN_VALUE, Integer.MAX_VALUE}) {
            drawnAs(x, 60, seed);
            drawnAs(x, 1, seed);
        }
        TruthCord y = new TruthCord();
        CHECK.due("9 nobody", TruthCord.NONE, y.drawn(5, 1));
        Check.valley(y, "who a;who b;");
        CHECK.due("9 no FACT", TruthCord.NONE, y.drawn(5, 1));
        Check.valley(y, "who a;fact f 5 5 a;");
        CHECK.due("9 one alone", TruthCord.NONE, y.drawn(5, 1));
        Check.valley(y, "who a;fact f 5 5 a;who b;");
        CHECK.due("9 two", 5, y.drawn(5, 1));
    }

    /** The draws anew, by hand: 4 PEOPLE, 3 FACTS. */
    private static void drawnAs(TruthCord x, int n, int seed) {
        CHECK.due("9 drawn(" + n + ", " + seed + ")", n, x.drawn(n, seed));
        CHECK.due("9 count(3)", n, x.count(3));
        int[] s = {seed};
        int day = 0;
        for (int i = 0; i < n; i++) {
            int what = draw(s, 8);
            int one = draw(s, 4);
            int other = draw(s, 4);
            int fact = draw(s, 3);
            other = other == one ? (other + 1) % 4 : other;
            int[] kinds = {0, 1, 1, 2, 4, 3, 3, 3};
            day += what == 0 ? 1 : 0;
            int[] want = what == 0 ? new int[] {0, day, -1, -1, 0}
                : new int[] {kinds[what], one, other, fact, what == 4 ? draw(s, 20) : 0};
            for (int k = 0; k < 5; k++) {
                CHECK.due("9 line(" + i + ", " + k + ") by " + seed, want[k], x.line(i, k));
            }
        }
        CHECK.due("9 the DAY", day, x.autumn(6));
    }

    private static int draw(int[] s, int n) {
        s[0] = s[0] * 1103515245 + 12345;
        return (s[0] >>> 8) % n;
    }
}
