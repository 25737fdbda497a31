/** Boundary cases of the tape, of what is kept, and of every call's arguments: promises 1 to 6, 34 to 37. */
final class EdgesOfCalls {
    private static final String VALLEY = "who a;who b;who c;fact f 10 5 a;fact g 7 3 b;fact h 20 9 c;knows a f;knows b f;knows a g;knows c h;"
        + "since f g h;moon 3;";
    private static final String BOOK = "a lies c f with b;day 4;a hides b g;b sells c f 12;c tells a g;";
    private static final int[] FAR = {Integer.MIN_VALUE, -1000, 1000, Integer.MAX_VALUE};

    private final Edges edges;

    private EdgesOfCalls(Edges edges) {
        this.edges = edges;
    }

    static void run(Edges edges) {
        EdgesOfCalls all = new EdgesOfCalls(edges);
        all.newObject();
        all.fiveHundredAndTwelve();
        all.feed();
        all.end();
        all.emptyThen();
        all.itStays();
        all.newValley();
        all.fault();
        all.fact();
        all.throwing();
        all.image();
        all.restore();
        all.count();
    }

    /** All that can be asked without changing anything, but for what order(), read() and near() take from the tape. */
    private static String state(TruthCord x) {
        StringBuilder all = new StringBuilder();
        for (int i = 0; i < 10; i++) {
            all.append(x.count(i)).append(' ');
        }
        all.append(x.fault()).append(' ').append(x.said()).append(' ').append(x.debts()).append('|');
        for (int who = 0; who < x.count(0); who++) {
            all.append(x.knows(who, 0)).append(' ').append(x.knows(who, 1)).append(' ').append(x.terms(who)).append(' ');
            all.append(x.came(who, 0)).append(' ').append(x.came(who, 4)).append(' ');
            all.append(x.needs(who, 1)).append(' ').append(x.buys(who, 1)).append('|');
        }
        for (int f = 0; f < x.count(1); f++) {
            all.append(x.fact(f, 0)).append(' ').append(x.fact(f, 2)).append(' ').append(x.led(f, -1)).append('|');
        }
        for (int i = 0; i < x.count(3); i++) {
            all.append(x.line(i, 0)).append(' ').append(x.line(i, 1)).append(' ').append(x.line(i, 4)).append(' ').append(x.wrong(i)).append('|');
        }
        for (int d = 0; d < x.debts(); d++) {
            all.append(x.debt(d, 0)).append(' ').append(x.debt(d, 4)).append(' ').append(x.debt(d, 7)).append(' ').append(x.debt(d, 8)).append('|');
        }
        for (int what = 0; what < 7; what++) {
            all.append(x.autumn(what)).append(' ');
        }
        return all.append(x.feast(0)).append(' ').append(x.feast(1)).append(' ').append(x.orderAt(0)).append(' ').append(x.orderAt(1)).toString();
    }

    private void stays(String what, String before, TruthCord x) {
        String after = state(x);
        edges.yes(what + ": " + before + " became " + after, before.equals(after));
    }

    private void newObject() {
        edges.about("An empty VALLEY, no BOOK; an empty tape.", 1);
        TruthCord x = new TruthCord();
        int[] counts = {0, 0, 0, 0, 28, 5, 15, 5, 20, 0};
        for (int i = 0; i < counts.length; i++) {
            edges.due("count(" + i + ")", counts[i], x.count(i));
        }
        edges.missing("fact(0, 0)", () -> x.fact(0, 0));
        edges.missing("line(0, 0)", () -> x.line(0, 0));
        edges.missing("debt(0, 0)", () -> x.debt(0, 0));
        edges.missing("came(0, 0)", () -> x.came(0, 0));
        for (int what = 0; what < 7; what++) {
            edges.due("autumn(" + what + ")", 0, x.autumn(what));
        }
        edges.all("what there is not", new int[] {-1, -1, -1, -1, -1, -1, -10000, -1, -1, -1, -1, -1}, x.knows(0, 0), x.worth(0, 0),
            x.wrong(0), x.feastAt(0), x.needs(0, 0), x.buys(0, 0), x.terms(0), x.source(0, 0), x.led(0, -1), x.ripple(0, 1, 0, 0),
            x.unsaid(0), x.said());
        edges.all("nothing is owed", new int[] {0, 0, 0}, x.debts(), x.feast(0), x.feast(1));
        edges.due("read() of its tape", -2, x.read());
        edges.due("near(-1) of its tape", -2, x.near(-1));
        edges.due("order() of its tape", -1, x.order());
        edges.due("book() of its tape", 0, x.book());
        edges.due("book(), a DAY needs nobody", 1, Check.book(x, "day 0;"));
        edges.due("sentence(), it needs nobody", 1, Check.sentence(x, "late"));
        edges.due("said() of nobody", 0, x.said());
        edges.due("valley() of its tape", 0, x.valley());
    }

    private void fiveHundredAndTwelve() {
        edges.about("An object is used for at most 512 calls after it has been made", 2, 3, 37);
        TruthCord x = new TruthCord();
        int wrong = 0;
        for (int i = 0; i < 170; i++) {
            wrong += x.feed(i, i, i, i, i) == 20 ? 0 : 1;
            wrong += x.count(9) == 20 ? 0 : 1;
            wrong += x.end(0) ? 0 : 1;
        }
        edges.due("510 calls, those that are not as due", 0, wrong);
        edges.due("the 511th call", 20, x.feed(0x01020201, 0, 0, 0, 0));
        edges.yes("the 512th call", x.end(4));
        edges.due("and one more, which is free", 37, x.read());
    }

    private void feed() {
        edges.about("Twenty bytes come behind the tape, of each number the highest first: how many it has", 2);
        TruthCord x = new TruthCord();
        edges.due("'who abcdef;who ghij;'", 20, x.feed(0x77686f20, 0x61626364, 0x65663b77, 0x686f2067, 0x68696a3b));
        edges.due("its LINES", 2, x.valley());
        edges.fault("the NAMES are as fed", 3, 17, Check.book(x, "abcdef lies ghij z;"), x);
        edges.due("20", 20, x.feed(0x01020201, -1, -1, -1, -1));
        edges.due("40", 40, x.feed(0, 0, 0, 0, 0));
        x.end(4);
        edges.due("the first come first", 37, x.read());
        x.feed(0xff010203, 0, 0, 0, 0);
        x.end(4);
        edges.due("a byte of 255 is no KNOT", -2, x.read());
        x.feed(0x80000000, 0, 0, 0, 0);
        x.end(4);
        edges.due("nor is one of 128", -2, x.read());

        edges.about("NONE, and none come, if it would have more than 940", 2);
        TruthCord y = new TruthCord();
        Check.tape(y, "who a;" + Check.times(" ", 894));
        edges.due("900 there are", 900, y.count(9));
        edges.due("920", 920, y.feed(-1, -1, -1, -1, -1));
        edges.due("940", 940, y.feed(-1, -1, -1, -1, -1));
        edges.due("960 would be too many", -1, y.feed(0, 0, 0, 0, 0));
        edges.due("none came", 940, y.count(9));
        y.end(921);
        edges.due("941 would be too many", -1, y.feed(0, 0, 0, 0, 0));
        edges.due("none came", 921, y.count(9));
        y.end(920);
        edges.due("940 again", 940, y.feed(0, 0, 0, 0, 0));
        y.end(900);
        edges.due("what was there stays", 1, y.valley());
    }

    private void end() {
        edges.about("The tape has its first n bytes alone: true", 3);
        TruthCord x = new TruthCord();
        edges.yes("none of none", x.end(0));
        x.feed(0x01020201, 0x00000000, 0, 0, 0);
        edges.yes("all 20 of 20", x.end(20));
        edges.due("they stay", 20, x.count(9));
        edges.yes("4 of 20", x.end(4));
        edges.due("4", 4, x.count(9));
        edges.due("the next come behind these", 24, x.feed(0, 0, 0, 0, 0));
        x.end(4);
        edges.due("the first ones", 37, x.read());
        x.feed(1, 1, 1, 1, 1);
        edges.yes("none of 20", x.end(0));
        edges.due("none", 0, x.count(9));

        edges.about("false, if it has not so many, or n is below 0", 3);
        edges.no("one of none", x.end(1));
        edges.no("below 0 of none", x.end(-1));
        x.feed(0, 0, 0, 0, 0);
        edges.no("21 of 20", x.end(21));
        edges.no("-1 of 20", x.end(-1));
        for (int n : FAR) {
            edges.no("end(" + n + ")", x.end(n));
        }
        edges.due("all stay", 20, x.count(9));
        x.end(4);
        edges.no("those that were taken off are gone", x.end(5));
    }

    private void emptyThen() {
        edges.about("The tape (empty then, here and below) is the VALLEY now: how many LINES", 4, 8, 24, 29, 30, 33);
        TruthCord x = new TruthCord();
        edges.due("valley", 12, Check.valley(x, VALLEY));
        edges.due("behind a valley", 0, x.count(9));
        Check.valley(x, "?");
        edges.due("behind a valley with a FAULT", 0, x.count(9));
        Check.book(x, BOOK);
        edges.due("behind a book", 0, x.count(9));
        Check.book(x, "?");
        edges.due("behind a book with a FAULT", 0, x.count(9));
        Check.sentence(x, "late");
        edges.due("behind a sentence", 0, x.count(9));
        Check.sentence(x, "?");
        edges.due("behind a sentence with a FAULT", 0, x.count(9));
        Check.tape(x, 0, 1, 1);
        x.order();
        edges.due("behind an order", 0, x.count(9));
        Check.tape(x, 0, 0, 0);
        x.order();
        edges.due("behind an order that is not as told", 0, x.count(9));
        Check.tape(x, 0, 0, 0, 0);
        x.read();
        edges.due("behind read()", 0, x.count(9));
        Check.tape(x, 0, 0, 0);
        x.read();
        edges.due("behind read(), not as told", 0, x.count(9));
        Check.tape(x, 0, 0, 0, 0);
        x.near(0);
        edges.due("behind near()", 0, x.count(9));
        Check.tape(x, 0, 0, 0, 0, 0);
        x.near(0);
        edges.due("behind near(), not as told", 0, x.count(9));
        Check.tape(x, 0, 0, 0, 0);
        x.near(Integer.MIN_VALUE);
        edges.due("behind near() of none such", 0, x.count(9));
    }

    private void itStays() {
        edges.about("-1 less the place of a FAULT: it stays", 4, 8, 33);
        TruthCord x = Check.with(VALLEY, BOOK);
        Check.sentence(x, "owes > 0");
        edges.due("a valley with a FAULT at its end", -1 - 32, Check.valley(x, "who z;moon 9;fact q 1 1 z;since "));
        edges.due("PEOPLE", 3, x.count(0));
        edges.due("FACTS", 3, x.count(1));
        edges.due("moon", 3, x.count(4));
        edges.due("what was told", 3 + 4, x.knows(0, 0));
        edges.due("the BOOK", 5, x.count(3));
        edges.due("the SENTENCE", 3, x.said());
        edges.due("a book with a FAULT at its end", -1 - 18, Check.book(x, "a tells b g;day 5 "));
        edges.due("the BOOK", 5, x.count(3));
        edges.due("its DEBTS", 3, x.debts());
        edges.due("its DAY", 4, x.autumn(6));
        edges.due("a sentence with a FAULT at its end", -1 - 8, Check.sentence(x, "late and"));
        edges.due("the SENTENCE", 3, x.said());
        edges.due("a FAULT at place 0", -1, Check.valley(x, ";"));
        edges.due("a FAULT at place 900", -901, Check.book(x, Check.times(" ", 901)));
    }

    private void newValley() {
        edges.about("A new VALLEY has no BOOK and no SENTENCE.", 4, 8, 33);
        TruthCord x = Check.with(VALLEY + "asks a f 5;", BOOK);
        Check.sentence(x, "late");
        edges.due("the same VALLEY again", 13, Check.valley(x, VALLEY + "asks a f 5;"));
        edges.due("no BOOK", 0, x.count(3));
        edges.due("no DEBTS", 0, x.debts());
        edges.due("no DAY", 0, x.autumn(6));
        edges.due("all KNOW as at first", 4, x.knows(2, 1));
        edges.due("no SENTENCE", -1, x.said());
        Check.book(x, BOOK);
        Check.sentence(x, "late");
        edges.due("an empty one", 0, Check.valley(x, ""));
        edges.all("nothing of the old one", new int[] {0, 0, 0, 0, 28}, x.count(0), x.count(1), x.count(2), x.count(3), x.count(4));
        edges.due("no SENTENCE", -1, x.said());
    }

    private void fault() {
        edges.about("The kind of the FAULT of the latest valley(), book() or sentence(); 0 without one and ahead of any.", 5);
        TruthCord x = new TruthCord();
        edges.due("ahead of any", 0, x.fault());
        Check.valley(x, "who 5;");
        edges.due("of a valley", 1, x.fault());
        Check.valley(x, "moon 0;");
        edges.due("the latest counts", 2, x.fault());
        Check.valley(x, VALLEY);
        edges.due("without one", 0, x.fault());
        Check.book(x, "a tells a f;");
        edges.due("of a book", 3, x.fault());
        Check.book(x, "");
        edges.due("without one", 0, x.fault());
        Check.sentence(x, Check.times("not ", 8) + "late");
        edges.due("of a sentence", 4, x.fault());
        x.drawn(3, 3);
        x.drawn(0, 0);
        x.order();
        x.read();
        x.near(0);
        x.image(0);
        x.restore(0);
        edges.due("other calls are none of these", 4, x.fault());
        Check.sentence(x, "late");
        edges.due("without one", 0, x.fault());
    }

    private void fact() {
        edges.about("Of FACT f: 0 LENGTH, 1 HURT, 2 whom it is about.", 6);
        StringBuilder twelve = new StringBuilder("who a;who b;");
        for (int i = 0; i < 12; i++) {
            twelve.append("fact f").append((char) ('a' + i)).append(' ').append(i == 11 ? 99 : i + 1).append(' ').append(i == 11 ? 99 : i)
                .append(i % 2 == 0 ? " a;" : " b;");
        }
        TruthCord x = Check.with(twelve.toString(), "");
        edges.all("the first", new int[] {1, 0, 0}, x.fact(0, 0), x.fact(0, 1), x.fact(0, 2));
        edges.all("the twelfth", new int[] {99, 99, 1}, x.fact(11, 0), x.fact(11, 1), x.fact(11, 2));

        edges.about("NoSuchElementException: no such ones.", 6);
        edges.missing("fact(12, 0)", () -> x.fact(12, 0));
        edges.missing("fact(-1, 0)", () -> x.fact(-1, 0));
        edges.missing("fact(0, 3)", () -> x.fact(0, 3));
        edges.missing("fact(11, -1)", () -> x.fact(11, -1));
        for (int n : FAR) {
            edges.missing("fact(" + n + ", 0)", () -> x.fact(n, 0));
            edges.missing("fact(0, " + n + ")", () -> x.fact(0, n));
        }
        TruthCord y = Check.with("who a;fact f 5 5 a;", "");
        edges.missing("the second of one", () -> y.fact(1, 0));
    }

    private void throwing() {
        edges.about("A call that throws changes nothing.", 6, 10, 13, 15);
        TruthCord x = Check.with(VALLEY, BOOK);
        Check.sentence(x, "late");
        Check.tape(x, 0, 1, 1, 0, 2, 1);
        x.order();
        x.feed(0x01020201, 0, 0, 0, 0);
        x.end(4);
        String before = state(x);
        int[][] none = {{-1, 0}, {0, -1}, {Integer.MIN_VALUE, 0}, {Integer.MAX_VALUE, 0}, {0, Integer.MAX_VALUE}, {0, 9}};
        for (int[] n : none) {
            edges.missing("fact", () -> x.fact(n[0], n[1]));
            edges.missing("line", () -> x.line(n[0], n[1]));
            edges.missing("debt", () -> x.debt(n[0], n[1]));
            edges.missing("came", () -> x.came(n[0], n[1]));
        }
        stays("behind 24 that throw", before, x);
        edges.due("the tape's bytes, too", 37, x.read());
    }

    private void image() {
        edges.about("VALLEY, BOOK and SENTENCE are kept in place k (0, 1): true", 35);
        TruthCord x = Check.with(VALLEY, BOOK);
        Check.sentence(x, "late");
        String one = state(x);
        edges.yes("image(0)", x.image(0));
        stays("nothing changes", one, x);
        TruthCord y = Check.with(VALLEY, BOOK);
        Check.sentence(y, "late");
        y.image(0);
        Check.book(y, "");
        Check.sentence(y, "not late");
        edges.yes("image(1)", y.image(1));
        y.restore(0);
        edges.due("what comes later is not in it: its LINES", 5, y.count(3));
        edges.due("what comes later is not in it: its SENTENCE", 3, y.said());
        y.restore(1);
        edges.due("each place has its own: LINES", 0, y.count(3));
        edges.due("each place has its own: the SENTENCE", 7, y.said());
        edges.yes("image(0) again", y.image(0));
        y.drawn(5, 5);
        y.restore(0);
        edges.due("the latest in a place counts", 0, y.count(3));

        edges.about("false: no such one.", 35);
        for (int k : new int[] {-1, 2, Integer.MIN_VALUE, Integer.MAX_VALUE}) {
            edges.no("image(" + k + ")", y.image(k));
        }
        TruthCord z = new TruthCord();
        z.image(2);
        z.image(-1);
        edges.no("nothing is kept by it", z.restore(0) || z.restore(1));
    }

    private void restore() {
        edges.about("They are as kept in place k (the tape, and what order() told last, stays): true", 36);
        TruthCord x = Check.with(VALLEY, BOOK);
        Check.sentence(x, "late");
        String before = state(x).replaceAll(" \\S+ \\S+$", "");
        x.image(1);
        Check.valley(x, "who z;who y;fact q 5 5 z;knows z q;old 9;");
        Check.book(x, "z lies y q;");
        Check.sentence(x, "debts > 0");
        Check.tape(x, 0, 1, 0);
        edges.due("an order of one", 0, x.order());
        edges.yes("restore(1)", x.restore(1));
        edges.yes("all is as kept", before.equals(state(x).replaceAll(" \\S+ \\S+$", "")));
        edges.due("what order() told stays: the first", 0, x.orderAt(0));
        edges.due("what order() told stays: no second", -1, x.orderAt(1));
        TruthCord y = Check.with(VALLEY, BOOK);
        y.image(0);
        Check.tape(y, 1, 2, 2, 1);
        edges.yes("restore(0)", y.restore(0));
        edges.due("the tape stays, how many", 4, y.count(9));
        edges.due("the tape stays, which", 37, y.read());
        TruthCord z = new TruthCord();
        z.image(0);
        Check.valley(z, VALLEY);
        Check.book(z, BOOK);
        Check.sentence(z, "late");
        edges.yes("an empty VALLEY is kept, too", z.restore(0));
        edges.all("it has none of them", new int[] {0, 0, 0, 0, -1}, z.count(0), z.count(1), z.count(2), z.count(3), z.said());
        edges.yes("what is kept is there again and again", z.restore(0));

        edges.about("false: no such one, or nothing is kept there.", 36);
        edges.no("nothing is kept in place 1", z.restore(1));
        for (int k : new int[] {-1, 2, Integer.MIN_VALUE, Integer.MAX_VALUE}) {
            edges.no("restore(" + k + ")", z.restore(k));
        }
        edges.no("nothing is kept in place 0 of a new one", new TruthCord().restore(0));
        TruthCord w = Check.with(VALLEY, BOOK);
        w.restore(0);
        w.restore(2);
        edges.due("nothing changes by it", 5, w.count(3));
    }

    private void count() {
        edges.about("0 PEOPLE, 1 FACTS, 2 'since', 3 LINES of the BOOK, 4 to 8 moon, old, secret, silent, found, 9 bytes of the tape.", 37);
        TruthCord x = Check.with("who a;who b;fact f 1 0 a;fact g 2 0 a;fact h 3 0 b;since f g h;since h g f;since f h g;since f g h;"
            + "moon 99;old 10;secret 30;silent 20;found 40;", "day 1;day 2;day 3;day 4;day 5;day 6;");
        x.feed(0, 0, 0, 0, 0);
        x.end(7);
        int[] want = {2, 3, 4, 6, 99, 10, 30, 20, 40, 7};
        for (int i = 0; i < want.length; i++) {
            edges.due("count(" + i + ")", want[i], x.count(i));
        }

        edges.about("NONE for another what.", 37);
        for (int what : new int[] {-1, 10, Integer.MIN_VALUE, Integer.MAX_VALUE}) {
            edges.due("count(" + what + ")", -1, x.count(what));
        }
    }
}
