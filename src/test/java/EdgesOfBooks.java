/** Boundary cases of what a BOOK comes to, LINE by LINE, and of what may be said of whom: promises 7 to 16, 21 to 23, 34. */
final class EdgesOfBooks {
    private static final String THREE = "who a;who b;who c;";
    private static final int[] FAR = {Integer.MIN_VALUE, -2, 61, 1000, Integer.MAX_VALUE};

    private final Edges edges;

    private EdgesOfBooks(Edges edges) {
        this.edges = edges;
    }

    static void run(Edges edges) {
        EdgesOfBooks all = new EdgesOfBooks(edges);
        all.follows();
        all.knows();
        all.wrongs();
        all.lies();
        all.hides();
        all.worths();
        all.worth();
        all.pays();
        all.sells();
        all.found();
        all.late();
        all.drawn();
        all.drawnNot();
        all.line();
        all.wrong();
        all.debt();
        all.came();
        all.autumn();
        all.terms();
        all.source();
        all.led();
        all.said();
        all.plain();
    }

    private static int[] debt(TruthCord x, int d) {
        int[] all = new int[9];
        for (int what = 0; what < 9; what++) {
            all[what] = x.debt(d, what);
        }
        return all;
    }

    private void follows() {
        edges.about("Who KNOWS: as told, and what follows by 'since', as often as something does.", 7);
        // told backwards: each round of all eight gains one FACT
        String chain = THREE + "fact m 1 0 a;fact n 1 0 a;fact o 1 0 a;fact p 1 0 a;fact q 1 0 a;fact r 1 0 a;fact s 1 0 a;fact t 1 0 a;"
            + "fact u 1 0 a;fact v 1 0 a;since m u v;since m t u;since m s t;since m r s;since m q r;since m p q;since m o p;since m n o;"
            + "knows a m;knows a n;knows b m;knows c n;";
        TruthCord x = Check.with(chain, "");
        edges.all("at first", new int[] {1023, 1, 2}, x.knows(0, 0), x.knows(1, 0), x.knows(2, 0));
        edges.due("a telling of the last one makes all follow", 1, Check.book(x, "a tells b n;"));
        edges.due("at the end", 1023, x.knows(1, 1));
        edges.due("at first", 1, x.knows(1, 0));
        Check.book(x, "a sells b v 0;");
        edges.due("nothing follows from m and v", 1 + 512, x.knows(1, 1));
    }

    private void knows() {
        edges.about("FACTS that a WHO KNOWS at first (what 0), at the end of the BOOK (1), as bits; NONE: no such ones.", 7);
        TruthCord x = Check.with(THREE + "fact f 1 0 a;fact g 1 0 a;knows a f;knows a g;knows b g;", "a tells c g;");
        edges.all("at first", new int[] {3, 2, 0}, x.knows(0, 0), x.knows(1, 0), x.knows(2, 0));
        edges.all("at the end", new int[] {3, 2, 2}, x.knows(0, 1), x.knows(1, 1), x.knows(2, 1));
        edges.due("no fourth WHO", -1, x.knows(3, 0));
        edges.due("knows(-1, 0)", -1, x.knows(-1, 0));
        edges.due("knows(0, 2)", -1, x.knows(0, 2));
        edges.due("knows(0, -1)", -1, x.knows(0, -1));
        for (int n : FAR) {
            edges.due("knows(" + n + ", 1)", -1, x.knows(n, 1));
            edges.due("knows(1, " + n + ")", -1, x.knows(1, n));
        }
    }

    private void wrongs() {
        edges.about("a LINE is WRONG, and does nothing, the least: 1 who lies (one of those), hides, tells or sells does not KNOW the FACT; "
            + "2 the other one KNOWS it.", 11, 16);
        String valley = "who a;who b;who c;who d;fact f 10 5 c;fact g 10 5 c;knows b f;knows c f;knows b g;";
        String[] verbs = {" lies ", " hides ", " tells ", " sells "};
        for (String verb : verbs) {
            String end = verb.equals(" sells ") ? " f 9;" : " f;";
            TruthCord x = Check.with(valley, "a" + verb + "d" + end + "b" + verb + "c" + end + "d" + verb + "b" + end);
            edges.all(verb, new int[] {1, 2, 1}, x.wrong(0), x.wrong(1), x.wrong(2));
            edges.all(verb + "does nothing", new int[] {0, 0, 3, 0, 0, 0, 0, 0}, x.debts(), x.autumn(4), x.autumn(5), x.came(1, 4), x.came(2, 4),
                x.knows(0, 1), x.knows(3, 1), x.autumn(0));
            edges.due(verb + "does not make it old", 10, x.worth(1, 0));
            x = Check.with(valley, "b" + verb + "a" + end);
            edges.due(verb + "as it should be", 0, x.wrong(0));
        }
        TruthCord x = Check.with(valley, "b lies d f with c;b lies d f with c with a;a lies d f with b with c;b lies d f with a;b lies c f with a;b lies a f with c;");
        edges.all("one of those who lie", new int[] {0, 1, 1, 1, 1, 0}, x.wrong(0), x.wrong(1), x.wrong(2), x.wrong(3), x.wrong(4), x.wrong(5));
        edges.due("DEBTS of two LINES", 4, x.debts());
        edges.due("WRONG LINES", 4, x.autumn(5));
        x = Check.with(valley, "b tells d g;d tells a g;b tells a g;");
        edges.all("as it is LINE by LINE", new int[] {0, 0, 2}, x.wrong(0), x.wrong(1), x.wrong(2));
    }

    private void lies() {
        edges.about("each of those who lie OWES the other one's DEBT: LENGTH by how many lie, cut up (a DEBT each, in the order told).", 12, 13);
        String crowd = "who a;who b;who c;who d;who e;who f;who g;who h;";
        StringBuilder all = new StringBuilder(crowd);
        String[] lengths = {"o 1", "p 7", "q 8", "r 99"};
        for (String length : lengths) {
            all.append("fact ").append(length).append(" 0 a;");
            for (char who = 'a'; who < 'h'; who++) {
                all.append("knows ").append(who).append(' ').append(length.charAt(0)).append(';');
            }
        }
        String with = " with g with f with e with d with c with b;";
        TruthCord x = Check.with(all.toString(), "a lies h o" + with + "a lies h p" + with + "a lies h q" + with + "a lies h r" + with);
        int[] shares = {1, 1, 2, 15};
        int[] order = {0, 6, 5, 4, 3, 2, 1};
        edges.due("seven each", 28, x.debts());
        for (int d = 0; d < 28; d++) {
            edges.all("DEBT " + d, new int[] {order[d % 7], 7, d / 7, shares[d / 7], shares[d / 7], d / 7, -1, 0, 0}, debt(x, d));
        }
        x = Check.with(all.toString(), "b lies h r;b lies h r with a;b lies h r with c with a;");
        int[] much = {99, 50, 50, 33, 33, 33};
        int[] who = {1, 1, 0, 1, 2, 0};
        for (int d = 0; d < 6; d++) {
            edges.due("by how many lie, " + d, much[d], x.debt(d, 3));
            edges.due("who OWES, " + d, who[d], x.debt(d, 0));
        }
        x = Check.with(all.toString(), Check.times("a lies h o" + with, 16) + "a lies h o with g with f with e with d with c;");
        edges.due("as many as 900 bytes can make", 118, x.debts());
        edges.all("the last one", new int[] {2, 7, 0, 1, 1, 16, -1, 0, 0}, debt(x, 117));
        edges.due("OWED in all", 118, x.autumn(0));
    }

    private void hides() {
        edges.about("hides: LENGTH times 'silent' by 10, cut up.", 13);
        String valley = THREE + "fact f 1 0 a;fact g 11 0 a;fact h 99 0 a;knows a f;knows a g;knows a h;";
        String book = "a hides b f;a hides b g;a hides b h;";
        String[] silent = {"silent 1;", "", "silent 9;", "silent 10;", "silent 11;", "silent 20;"};
        int[][] want = {{1, 2, 10}, {1, 6, 50}, {1, 10, 90}, {1, 11, 99}, {2, 13, 109}, {2, 22, 198}};
        for (int i = 0; i < silent.length; i++) {
            TruthCord x = Check.with(valley + silent[i], book);
            edges.all("'" + silent[i] + "'", want[i], x.debt(0, 3), x.debt(1, 3), x.debt(2, 3));
        }

        edges.about("A DEBT of 0 is none.", 12);
        TruthCord x = Check.with(valley + "silent 0;", book + "a lies b f;");
        edges.due("the lie alone makes one", 1, x.debts());
        edges.due("none of them is WRONG", 0, x.autumn(5));
        edges.due("its LINE", 3, x.debt(0, 5));
        edges.due("came", 1, x.came(0, 1));
        edges.due("open ones", 1, x.autumn(1));
        edges.due("paid ones", 0, x.came(0, 2));
    }

    private void worths() {
        edges.about("WORTH of a FACT that one KNOWS: LENGTH times 'old' by 10, cut, if it was told or sold (by a LINE that was not WRONG)", 14);
        String valley = THREE + "fact f 9 0 b;fact g 9 0 c;knows a f;knows a g;";
        TruthCord x = Check.with(valley, "a tells b f;a sells b g 0;");
        edges.all("half of 9, cut, of both who KNOW it", new int[] {4, 4, 4, 4}, x.worth(0, 0), x.worth(1, 0), x.worth(0, 1), x.worth(1, 1));
        Check.book(x, "b tells a f;c sells a g 5;a lies b f;a hides b g;");
        edges.all("WRONG ones, lies and silence make nothing old", new int[] {13, 13}, x.worth(0, 0), x.worth(0, 1));
        edges.due("'old' 0", 0, Check.with(valley + "old 0;", "a tells b f;").worth(0, 0));
        edges.due("'old' 1", 0, Check.with(valley + "old 1;", "a tells b f;").worth(0, 0));
        edges.due("'old' 10", 9, Check.with(valley + "old 10;", "a tells b f;").worth(0, 0));
        x = Check.with(THREE + "fact f 9 0 c;fact g 9 0 c;fact h 9 0 c;since f g h;knows a f;knows a g;knows b g;", "a tells b f;");
        edges.due("what follows was not told", 9, x.worth(1, 2));

        edges.about("else LENGTH times 'secret' by 10, cut, if nobody else KNOWS it and it is about another one; else LENGTH.", 14);
        x = Check.with(THREE + "fact f 9 0 b;fact g 9 0 b;fact h 9 0 a;fact i 9 0 c;knows a f;knows a h;knows a g;knows b g;knows c i;knows a i;", "");
        edges.due("a secret about another one", 13, x.worth(0, 0));
        edges.due("whom it is about KNOWS it, too", 9, x.worth(0, 1));
        edges.due("of which that one alone KNOWS nothing else", 9, x.worth(1, 1));
        edges.due("about oneself", 9, x.worth(0, 2));
        edges.due("the first WHO KNOWS it, too", 9, x.worth(2, 3));
        edges.due("'secret' 10", 9, Check.with(valley + "secret 10;", "").worth(0, 0));
        edges.due("'secret' 11, cut", 9, Check.with(valley + "secret 11;", "").worth(0, 0));
        edges.due("'secret' 12, cut", 10, Check.with(valley + "secret 12;", "").worth(0, 0));
        edges.due("'secret' 30", 27, Check.with(valley + "secret 30;", "").worth(0, 0));
        x = Check.with(THREE + "fact f 9 0 b;fact g 5 0 b;knows c f;knows c g;knows b g;", "");
        edges.due("a secret of the last WHO", 13, x.worth(2, 0));
        x = Check.with(THREE + "fact f 9 0 c;fact g 9 0 c;fact h 9 0 c;since f g h;knows a f;knows a g;knows b f;", "a tells b g;");
        edges.due("no secret any more by what follows", 9, x.worth(0, 2));
    }

    private void worth() {
        edges.about("WORTH of a FACT for a WHO at the end; NONE: he does not KNOW it, no such ones.", 14);
        TruthCord x = Check.with(THREE + "fact f 9 0 b;fact g 9 0 b;knows a f;knows b g;", "a tells c f;");
        edges.due("at the end he KNOWS it", 4, x.worth(2, 0));
        edges.due("he does not KNOW it", -1, x.worth(1, 0));
        edges.due("another one", -1, x.worth(0, 1));
        edges.all("no such ones", new int[] {-1, -1, -1, -1}, x.worth(3, 0), x.worth(-1, 0), x.worth(0, 2), x.worth(0, -1));
        for (int n : FAR) {
            edges.due("worth(" + n + ", 0)", -1, x.worth(n, 0));
            edges.due("worth(0, " + n + ")", -1, x.worth(0, n));
        }
    }

    private void pays() {
        edges.about("it PAYS the first DEBT (as they came) of who tells that is open and not above its WORTH; none: nothing.", 13);
        String valley = THREE + "fact f 10 0 a;fact g 11 0 a;fact h 9 0 a;fact i 1 0 a;knows a f;knows a g;knows a h;knows a i;knows b f;silent 10;";
        TruthCord x = Check.with(valley, "a hides c f;a tells c f;");
        edges.all("just its WORTH", new int[] {0, 1}, x.debt(0, 4), x.debt(0, 6));
        x = Check.with(valley, "a hides c g;a tells b h;a tells c f;");
        edges.all("one above its WORTH", new int[] {11, -1}, x.debt(0, 4), x.debt(0, 6));
        x = Check.with(valley, "a hides c i;a tells b i;");
        edges.all("a DEBT of 1 by a WORTH of 1", new int[] {0, 1}, x.debt(0, 4), x.debt(0, 6));
        x = Check.with(valley + "old 0;", "a hides c i;a sells b i 0;a tells c i;");
        edges.all("a DEBT of 1, found, by a WORTH of 0", new int[] {2, -1}, x.debt(0, 4), x.debt(0, 6));
        x = Check.with(valley, "a hides c g;a hides c f;a hides c h;a tells b h;a tells b g;a tells b i;");
        edges.all("the first that is not above it, one alone", new int[] {4, -1, 3}, x.debt(0, 6), x.debt(1, 6), x.debt(2, 6));
        edges.all("what is", new int[] {0, 10, 0}, x.debt(0, 4), x.debt(1, 4), x.debt(2, 4));
        x = Check.with(valley, "b hides c f;a tells b g;");
        edges.due("not another one's", 10, x.debt(0, 4));
        x = Check.with(valley, "a hides c i;a tells b i;a tells b g;a hides c h;a tells b h;");
        edges.all("not one that is paid", new int[] {1, 4}, x.debt(0, 6), x.debt(1, 6));
        x = Check.with(valley, "a tells b g;a hides c i;");
        edges.due("not one that comes later", 1, x.debt(0, 4));
        x = Check.with(valley, "a hides c f;a tells b f;");
        edges.all("not by a LINE that is WRONG", new int[] {10, 2}, x.debt(0, 4), x.wrong(1));
        x = Check.with(THREE + "fact f 9 0 b;fact g 13 0 a;fact h 14 0 a;knows a f;knows a g;knows a h;silent 10;", "a hides c h;a hides c g;a tells c f;");
        edges.all("at its WORTH ahead of the telling: a secret of 13", new int[] {14, 0}, x.debt(0, 4), x.debt(1, 4));

        edges.about("Whom it is about is HURT.", 15, 16);
        x = Check.with(THREE + "fact f 9 99 c;fact g 9 7 a;fact h 9 0 b;knows a f;knows a g;knows a h;", "a tells b f;a tells c f;a tells b g;a tells c h;");
        edges.all("each time it is told, also by being told it", new int[] {7, 0, 198}, x.came(0, 3), x.came(1, 3), x.came(2, 3));
        edges.due("HURT in all", 205, x.autumn(4));
    }

    private void sells() {
        edges.about("COINS go from the other one to who sells (below 0, too); nothing is paid.", 13, 15);
        String valley = THREE + "fact f 9 5 c;fact g 9 5 c;fact h 1 0 c;knows a f;knows a g;knows a h;";
        TruthCord x = Check.with(valley, "a lies c h;a sells b f 99;a sells b g 99;b sells c f 0;b sells c g 50;");
        edges.all("COINS", new int[] {198, -148, -50}, x.came(0, 4), x.came(1, 4), x.came(2, 4));
        edges.all("nothing is paid", new int[] {1, -1}, x.debt(0, 4), x.debt(0, 6));
        edges.due("nobody is HURT", 0, x.autumn(4));
    }

    private void found() {
        edges.about("By both the other one KNOWS it then, and what follows; all DEBTS to that one that are about a FACT that is new to him are FOUND", 13);
        String valley = "who a;who b;who c;who d;fact f 9 0 a;fact g 9 0 a;fact h 9 0 a;fact i 9 0 a;since f g h;since h f i;"
            + "knows a f;knows a g;knows d f;knows d h;secret 10;old 0;";
        String lies = "a lies b f with d;a hides b g;a lies b h;a lies b i;a lies c f;a lies c i;";
        TruthCord x = Check.with(valley, lies + "d sells b f 0;");
        edges.all("all that are about f", new int[] {1, 1, 0, 0, 0, 0, 0}, x.debt(0, 7), x.debt(1, 7), x.debt(2, 7), x.debt(3, 7), x.debt(4, 7), x.debt(5, 7), x.debt(6, 7));
        edges.due("b KNOWS f", 1, x.knows(1, 1));
        x = Check.with(valley, lies + "d sells b f 0;a sells b g 0;");
        edges.all("h and i follow", new int[] {1, 1, 1, 1, 1, 0, 0}, x.debt(0, 7), x.debt(1, 7), x.debt(2, 7), x.debt(3, 7), x.debt(4, 7), x.debt(5, 7), x.debt(6, 7));
        edges.due("b KNOWS all", 15, x.knows(1, 1));
        edges.all("each once", new int[] {10, 10, 10, 18, 18, 9, 9}, x.debt(0, 4), x.debt(1, 4), x.debt(2, 4), x.debt(3, 4), x.debt(4, 4), x.debt(5, 4), x.debt(6, 4));
        edges.due("FOUND ones", 5, x.autumn(3));
        x = Check.with(valley, "a lies b f;a tells b f;a lies c f;");
        edges.all("a tale finds, too, a paid one, too, but not what comes later", new int[] {1, 0, 0}, x.debt(0, 7), x.debt(0, 4), x.debt(1, 7));
        Check.book(x, "a lies b f;a lies c f;");
        edges.all("nothing is found in another BOOK", new int[] {0, 0, 0}, x.debt(0, 7), x.debt(1, 7), x.autumn(3));

        edges.about("an open one becomes itself times 'found' by 10, cut up.", 13);
        String[] settings = {"found 10;", "found 11;", "", "found 25;", "found 40;"};
        int[][] want = {{1, 5, 99}, {2, 6, 109}, {2, 10, 198}, {3, 13, 248}, {4, 20, 396}};
        String three = THREE + "fact f 1 0 a;fact g 5 0 a;fact h 99 0 a;knows a f;knows a g;knows a h;";
        for (int i = 0; i < settings.length; i++) {
            x = Check.with(three + settings[i], "a lies b f;a lies b g;a lies b h;a sells b f 0;a sells b g 0;a sells b h 0;");
            edges.all("'" + settings[i] + "'", want[i], x.debt(0, 4), x.debt(1, 4), x.debt(2, 4));
            edges.all("'" + settings[i] + "', at first", new int[] {1, 5, 99}, x.debt(0, 3), x.debt(1, 3), x.debt(2, 3));
        }
        x = Check.with(three, "a lies b f;a tells c g;a tells b f;");
        edges.all("a paid one stays paid", new int[] {0, 1, 1}, x.debt(0, 4), x.debt(0, 6), x.debt(0, 7));
    }

    private void late() {
        edges.about("LATE: a DEBT that is open at the end, or was paid, more than 'moon' DAYS behind its own.", 13, 16);
        String valley = THREE + "fact f 9 5 a;fact g 9 3 a;knows a f;knows a g;";
        String[] moons = {"moon 1;", "", "moon 99;"};
        int[] days = {1, 28, 99};
        for (int i = 0; i < 3; i++) {
            int n = days[i];
            String lie = "day 5;a lies b f;day ";
            edges.due(n + " DAYS, open", 0, Check.with(valley + moons[i], lie + (5 + n) + ";").debt(0, 8));
            edges.due(n + " and 1, open", 1, Check.with(valley + moons[i], lie + (6 + n) + ";").debt(0, 8));
            edges.due(n + " DAYS, paid", 0, Check.with(valley + moons[i], lie + (5 + n) + ";a tells b g;day 999;").debt(0, 8));
            edges.due(n + " and 1, paid", 1, Check.with(valley + moons[i], lie + (6 + n) + ";a tells b g;day 999;").debt(0, 8));
        }
        TruthCord x = Check.with(valley, "a lies b f;day 29;");
        edges.due("from DAY 0 on", 1, x.debt(0, 8));
        edges.due("LATE ones", 1, x.autumn(2));
        edges.due("no LATE ones", 0, Check.with(valley, "a lies b f;day 28;").autumn(2));
    }

    private void drawnAs(int seed, int... want) {
        TruthCord x = Check.with(THREE + "fact f 9 0 a;fact g 9 0 a;", "");
        int n = want.length / 5;
        edges.due("drawn(" + n + ", " + seed + ")", n, x.drawn(n, seed));
        for (int i = 0; i < want.length; i++) {
            edges.due("drawn(" + n + ", " + seed + "), line(" + i / 5 + ", " + i % 5 + ")", want[i], x.line(i / 5, i % 5));
        }
    }

    private void drawn() {
        edges.about("for each LINE draws of 8, of PEOPLE, of PEOPLE, of FACTS", 9);
        // by hand: seed 23 draws 4 0 2 0 and 12 COINS, then 3 2 2 1
        drawnAs(23, 4, 0, 2, 0, 12, 2, 2, 0, 1, 0);
        edges.about("0: 'day', one more than the DAY of then", 9);
        drawnAs(0, 0, 1, -1, -1, 0);
        drawnAs(Integer.MIN_VALUE, 0, 1, -1, -1, 0);
        TruthCord x = Check.with(THREE + "fact f 9 0 a;fact g 9 0 a;", "day 500;");
        x.drawn(60, 1);
        int day = 0;
        for (int i = 0; i < 60; i++) {
            if (x.line(i, 0) == 0) {
                day++;
                edges.due("the DAY of LINE " + i, day, x.line(i, 1));
            }
        }
        edges.yes("there are some", day > 2);
        edges.due("the DAY of now", day, x.autumn(6));

        edges.about("the second one like the first: the next one, round", 9);
        drawnAs(40, 1, 0, 1, 0, 0);
        drawnAs(65, 1, 1, 2, 1, 0);
        drawnAs(55, 1, 2, 0, 0, 0);
        drawnAs(Integer.MAX_VALUE, 1, 2, 0, 1, 0);
        drawnAs(-1, 1, 0, 1, 1, 0);

        edges.about("1, 2: lies; 3: hides; 4: sells, for a draw of 20 COINS; else tells.", 9);
        drawnAs(60, 1, 0, 1, 0, 0);
        drawnAs(9, 1, 0, 2, 1, 0);
        drawnAs(8, 2, 0, 2, 0, 0);
        drawnAs(277, 4, 2, 0, 1, 0);
        drawnAs(272, 4, 1, 2, 0, 19);
        drawnAs(7, 3, 0, 1, 1, 0);
        drawnAs(1, 3, 2, 0, 1, 0);
        drawnAs(31, 3, 1, 0, 1, 0);
    }

    private void drawnNot() {
        edges.about("The BOOK is DRAWN (n 1 to 60): how many LINES", 9);
        String valley = "who a;who b;who c;fact f 9 3 a;fact g 8 2 b;knows a f;knows a g;knows b g;";
        TruthCord x = Check.with(valley, "day 7;");
        edges.due("drawn(1, 7)", 1, x.drawn(1, 7));
        edges.due("count(3)", 1, x.count(3));
        edges.due("drawn(60, 7)", 60, x.drawn(60, 7));
        edges.due("count(3)", 60, x.count(3));
        // the same LINES told as a text are judged the same
        StringBuilder text = new StringBuilder();
        String[] verbs = {"day ", " lies ", " hides ", " tells ", " sells "};
        for (int i = 0; i < 60; i++) {
            int kind = x.line(i, 0);
            if (kind == 0) {
                text.append("day ").append(x.line(i, 1));
            } else {
                text.append("abc".charAt(x.line(i, 1))).append(verbs[kind]).append("abc".charAt(x.line(i, 2))).append(' ').append("fg".charAt(x.line(i, 3)));
                text.append(kind == 4 ? " " + x.line(i, 4) : "");
            }
            text.append(';');
        }
        TruthCord y = Check.with(valley, text.toString());
        edges.yes("it has DEBTS", y.debts() > 0);
        edges.due("DEBTS", y.debts(), x.debts());
        for (int d = 0; d < y.debts() && d < 4; d++) {
            edges.all("DEBT " + d, debt(y, d), debt(x, d));
        }
        for (int what = 0; what < 7; what++) {
            edges.due("autumn(" + what + ")", y.autumn(what), x.autumn(what));
        }

        edges.about("NONE: not as told, fewer than two PEOPLE, or no FACT (it stays).", 9);
        for (int n : new int[] {0, -1, 61, Integer.MIN_VALUE, Integer.MAX_VALUE}) {
            edges.due("drawn(" + n + ", 1)", -1, y.drawn(n, 1));
        }
        edges.due("it stays", 60, y.count(3));
        edges.due("nobody", -1, new TruthCord().drawn(1, 1));
        edges.due("one alone", -1, Check.with("who a;fact f 9 0 a;", "").drawn(1, 1));
        edges.due("no FACT", -1, Check.with("who a;who b;", "").drawn(1, 1));
        edges.due("two and one", 1, Check.with("who a;fact f 9 0 a;who b;", "").drawn(1, 1));
        TruthCord z = Check.with("who a;who b;", "day 5;");
        z.drawn(5, 5);
        edges.all("it stays", new int[] {1, 5}, z.count(3), z.autumn(6));
    }

    private void line() {
        edges.about("0 what (0 day, 1 lies, 2 hides, 3 tells, 4 sells), 1 who (the DAY), 2 to whom (NONE), 3 the FACT (NONE), 4 those 'with', as bits "
            + "(COINS of sells).", 10);
        TruthCord x = Check.with(THREE + "fact f 9 0 a;fact g 9 0 b;", "day 0;day 999;a lies b f;c lies a g with b;b hides c f;c tells b g;b sells a f 99;");
        int[][] want = {{0, 0, -1, -1, 0}, {0, 999, -1, -1, 0}, {1, 0, 1, 0, 0}, {1, 2, 0, 1, 2}, {2, 1, 2, 0, 0}, {3, 2, 1, 1, 0}, {4, 1, 0, 0, 99}};
        for (int i = 0; i < want.length; i++) {
            edges.all("LINE " + i, want[i], x.line(i, 0), x.line(i, 1), x.line(i, 2), x.line(i, 3), x.line(i, 4));
        }

        edges.about("NoSuchElementException: no such ones.", 10);
        edges.missing("line(7, 0)", () -> x.line(7, 0));
        edges.missing("line(-1, 0)", () -> x.line(-1, 0));
        edges.missing("line(0, 5)", () -> x.line(0, 5));
        edges.missing("line(0, -1)", () -> x.line(0, -1));
        for (int n : FAR) {
            edges.missing("line(" + n + ", 0)", () -> x.line(n, 0));
            edges.missing("line(0, " + n + ")", () -> x.line(0, n));
        }
        x.drawn(60, 2);
        edges.yes("the 60th", x.line(59, 0) >= 0);
        edges.missing("no 61st", () -> x.line(60, 0));
    }

    private void wrong() {
        edges.about("Why LINE i is WRONG (0: it is not); NONE: no such one.", 11);
        TruthCord x = Check.with(THREE + "fact f 9 0 a;knows a f;knows b f;", "c tells a f;a tells b f;a tells c f;day 3;");
        edges.all("all LINES", new int[] {1, 2, 0, 0}, x.wrong(0), x.wrong(1), x.wrong(2), x.wrong(3));
        edges.due("no fifth", -1, x.wrong(4));
        edges.due("wrong(-1)", -1, x.wrong(-1));
        for (int n : FAR) {
            edges.due("wrong(" + n + ")", -1, x.wrong(n));
        }
        edges.due("WRONG LINES, the first, too", 2, x.autumn(5));
    }

    private void debt() {
        edges.about("How many DEBTS there ever were.", 12);
        String valley = THREE + "fact f 9 0 a;fact g 9 0 a;knows a f;knows a g;";
        TruthCord x = Check.with(valley, "");
        edges.due("none", 0, x.debts());
        Check.book(x, "a lies b f;a tells b g;a lies c g;");
        edges.due("paid ones, too", 2, x.debts());

        edges.about("Of DEBT d: 0 who OWES, 1 whom, 2 the FACT, 3 what was owed at first, 4 what is (0: paid), 5 the LINE, 6 the LINE that paid it "
            + "(NONE: none), 7 FOUND (1, 0), 8 LATE (1, 0).", 13);
        edges.all("a paid one", new int[] {0, 1, 0, 9, 0, 0, 1, 0, 0}, debt(x, 0));
        edges.all("an open one", new int[] {0, 2, 1, 9, 9, 2, -1, 0, 0}, debt(x, 1));
        Check.book(x, "a lies b f;day 29;a sells b f 0;");
        edges.all("one FOUND and LATE", new int[] {0, 1, 0, 9, 18, 0, -1, 1, 1}, debt(x, 0));

        edges.about("NoSuchElementException: no such ones.", 13);
        edges.missing("debt(1, 0)", () -> x.debt(1, 0));
        edges.missing("debt(-1, 0)", () -> x.debt(-1, 0));
        edges.missing("debt(0, 9)", () -> x.debt(0, 9));
        edges.missing("debt(0, -1)", () -> x.debt(0, -1));
        for (int n : new int[] {Integer.MIN_VALUE, 118, 128, Integer.MAX_VALUE}) {
            edges.missing("debt(" + n + ", 0)", () -> x.debt(n, 0));
            edges.missing("debt(0, " + n + ")", () -> x.debt(0, n));
        }
    }

    private void came() {
        edges.about("Of a WHO at the end: 0 OWED (open), 1 DEBTS, 2 paid, 3 HURT, 4 COINS.", 15);
        TruthCord x = Check.with(THREE + "fact f 9 5 a;fact g 2 1 c;knows a f;knows a g;knows b f;", "a lies c g;a tells c f;b sells c g 5;a sells c g 7;a lies b g;");
        edges.all("the first", new int[] {2, 2, 1, 5, 7}, x.came(0, 0), x.came(0, 1), x.came(0, 2), x.came(0, 3), x.came(0, 4));
        edges.all("one without any", new int[] {0, 0, 0, 0, 0}, x.came(1, 0), x.came(1, 1), x.came(1, 2), x.came(1, 3), x.came(1, 4));
        edges.all("the last", new int[] {0, 0, 0, 0, -7}, x.came(2, 0), x.came(2, 1), x.came(2, 2), x.came(2, 3), x.came(2, 4));

        edges.about("NoSuchElementException: no such ones.", 15);
        edges.missing("came(3, 0)", () -> x.came(3, 0));
        edges.missing("came(-1, 0)", () -> x.came(-1, 0));
        edges.missing("came(0, 5)", () -> x.came(0, 5));
        edges.missing("came(0, -1)", () -> x.came(0, -1));
        for (int n : FAR) {
            edges.missing("came(" + n + ", 0)", () -> x.came(n, 0));
            edges.missing("came(0, " + n + ")", () -> x.came(0, n));
        }
    }

    private void autumn() {
        edges.about("AUTUMN: 0 OWED in all, 1 open DEBTS, 2 LATE ones, 3 FOUND ones, 4 HURT in all, 5 WRONG LINES, 6 the DAY.", 16);
        TruthCord x = Check.with(THREE + "fact f 1 5 a;fact g 2 1 c;knows a f;knows a g;knows b f;moon 1;",
            "c lies a f;a lies c f;b lies c f;a lies b g;day 2;a tells b g;a sells c f 0;a lies b f;");
        // a's first is paid by g and then found, LATE; b's is found: 2, LATE; the lie about g is found: 4, LATE
        edges.all("all of them", new int[] {6, 2, 3, 3, 1, 2, 2}, x.autumn(0), x.autumn(1), x.autumn(2), x.autumn(3), x.autumn(4), x.autumn(5), x.autumn(6));
        TruthCord y = Check.with(THREE + "fact f 1 5 a;knows a f;", "a lies b f;");
        edges.all("a DEBT of 1 is open", new int[] {1, 1}, y.autumn(0), y.autumn(1));

        edges.about("NONE for another what.", 16);
        edges.due("autumn(7)", -1, x.autumn(7));
        edges.due("autumn(-1)", -1, x.autumn(-1));
        for (int n : FAR) {
            edges.due("autumn(" + n + ")", -1, x.autumn(n));
        }
    }

    private void terms() {
        edges.about("DAYS till the first of his open DEBTS is LATE (the DAY of it, 'moon' and 1, less the DAY of now).", 21);
        String valley = THREE + "fact f 9 0 a;fact g 9 0 a;fact h 1 0 a;knows a f;knows a g;knows a h;knows b f;moon 10;";
        edges.due("on its own DAY", 11, Check.with(valley, "day 7;a lies c f;").terms(0));
        edges.due("the first of two", 9, Check.with(valley, "day 7;a lies c f;day 9;a lies c g;").terms(0));
        edges.due("the first is paid", 11, Check.with(valley, "day 7;a lies c f;day 9;a tells c g;a lies b g;").terms(0));
        edges.due("one of 1", 11, Check.with(valley, "a lies c h;").terms(0));
        TruthCord x = Check.with(valley, "a lies c f;day 2;b lies c f;day 3;");
        edges.all("each his own", new int[] {8, 10}, x.terms(0), x.terms(1));

        edges.about("TERMS of a WHO (below 1: LATE); NONE - 9999: no open DEBT, no such one.", 21);
        x = Check.with(valley, "a lies c f;day 10;");
        edges.all("1: not LATE", new int[] {1, 0}, x.terms(0), x.debt(0, 8));
        x = Check.with(valley, "a lies c f;day 11;");
        edges.all("0: LATE", new int[] {0, 1}, x.terms(0), x.debt(0, 8));
        x = Check.with(valley, "a lies c f;day 999;");
        edges.due("far below", 11 - 999, x.terms(0));
        edges.due("no DEBT", -10000, x.terms(1));
        edges.due("no open one", -10000, Check.with(valley, "a lies c f;a tells c g;").terms(0));
        edges.due("no fourth WHO", -10000, x.terms(3));
        edges.due("terms(-1)", -10000, x.terms(-1));
        for (int n : FAR) {
            edges.due("terms(" + n + ")", -10000, x.terms(n));
        }
    }

    private void source() {
        edges.about("SOURCE of a FACT one KNOWS: the LINE by which he came to KNOW it (also if it follows then); none, if he knew it at first.", 22);
        String valley = THREE + "fact f 9 0 a;fact g 9 0 a;fact h 9 0 a;fact i 9 0 a;since f g h;knows a f;knows a g;knows b g;knows c h;knows c i;";
        TruthCord x = Check.with(valley, "a tells b f;c sells a i 5;c tells b h;");
        edges.all("told by LINE 0, known at first, it follows then", new int[] {0, -1, 0, -1}, x.source(1, 0), x.source(1, 1), x.source(1, 2), x.source(1, 3));
        edges.all("it follows at first, sold by LINE 1", new int[] {-1, 1}, x.source(0, 2), x.source(0, 3));

        edges.about("SOURCE; NONE: he knew it at first, does not KNOW it, no such ones.", 22);
        edges.due("he knew it at first", -1, x.source(0, 0));
        edges.due("he does not KNOW it", -1, x.source(2, 0));
        edges.all("no such ones", new int[] {-1, -1, -1, -1}, x.source(3, 0), x.source(-1, 0), x.source(1, 4), x.source(1, -1));
        for (int n : FAR) {
            edges.due("source(" + n + ", 0)", -1, x.source(n, 0));
            edges.due("source(1, " + n + ")", -1, x.source(1, n));
        }
        Check.book(x, "");
        edges.due("none without a BOOK", -1, x.source(1, 0));
    }

    private void led() {
        edges.about("LED to a FACT: DEBTS that were paid by telling it.", 23);
        String valley = "who a;who b;who c;who d;fact f 9 0 a;fact g 9 0 a;fact h 1 0 a;knows a f;knows a g;knows a h;silent 10;old 10;found 10;";
        TruthCord x = Check.with(valley, "a lies b h;a lies b h;a lies b h;a tells c f;a tells d g;a tells d f;a sells b f 0;");
        edges.all("how many", new int[] {2, 1, 0}, x.led(0, -1), x.led(1, -1), x.led(2, -1));
        edges.all("which, as they came", new int[] {0, 2, 1}, x.led(0, 0), x.led(0, 1), x.led(1, 0));

        edges.about("How many DEBTS are LED to FACT f (k NONE), or the k-th one's number; NONE: there is none such, no such FACT.", 23);
        edges.all("behind the last one", new int[] {-1, -1, -1}, x.led(0, 2), x.led(1, 1), x.led(2, 0));
        edges.due("led(0, -2)", -1, x.led(0, -2));
        edges.all("no such FACT", new int[] {-1, -1, -1, -1}, x.led(3, -1), x.led(-1, -1), x.led(3, 0), x.led(-1, 0));
        for (int n : FAR) {
            edges.due("led(" + n + ", -1)", -1, x.led(n, -1));
            edges.due("led(0, " + n + ")", -1, x.led(0, n));
        }
        edges.due("none without DEBTS", 0, Check.with(valley, "a tells b f;").led(0, -1));
    }

    private void said() {
        edges.about("The PEOPLE of whom it may be said, as bits; NONE: there is no SENTENCE.", 34);
        TruthCord x = new TruthCord();
        edges.due("ahead of any", -1, x.said());
        Check.sentence(x, "not late");
        edges.due("nobody is there", 0, x.said());
        Check.valley(x, "who a;who b;who c;who d;who e;who f;who g;who h;fact m 9 0 a;knows h m;");
        edges.due("there is none in a new VALLEY", -1, x.said());
        Check.sentence(x, "");
        edges.due("none by a FAULT", -1, x.said());
        Check.sentence(x, "not late");
        edges.due("all eight", 255, x.said());
        Check.sentence(x, "has m");
        edges.due("the eighth", 128, x.said());
        Check.sentence(x, "late");
        edges.due("of none of them, but there is one", 0, x.said());
        // twenty, of which the last alone is so of all
        Check.sentence(x, "late" + Check.times(" or late", 18) + " or owes=0");
        edges.due("the last of twenty", 255, x.said());
        edges.due("eighteen", 18, Check.sentence(x, "owes=0" + Check.times(" and owes=0", 16) + " and late"));
        edges.due("the last of eighteen", 0, x.said());
        edges.due("eight within one another and one beside", 9, Check.sentence(x, "not(not(not(not late)))and owes=0"));
        edges.due("eight within one another", 0, x.said());
        Check.sentence(x, "not not not not not not not late");
        edges.due("seven times not", 255, x.said());
        Check.sentence(x, "late or (late or (late or owes=0))");
        edges.due("the last of four within one another", 255, x.said());
        Check.sentence(x, "owes=0 and (owes=0 and (owes=0 and late))");
        edges.due("the last of four within one another", 0, x.said());

        edges.about("It is said of PEOPLE behind the BOOK.", 34);
        Check.sentence(x, "has m");
        Check.book(x, "h tells a m;");
        edges.due("a new BOOK", 129, x.said());
        Check.book(x, "");
        edges.due("and another one", 128, x.said());
    }

    private void plain(TruthCord x, String text, int want) {
        Check.sentence(x, text);
        edges.due(text, want, x.said());
    }

    private void plain() {
        edges.about("'has' FACT (KNOWS it at the end) | 'late' (OWES or paid so)", 34);
        String valley = "who a;who b;who c;who d;fact f 9 5 a;fact g 9 3 d;fact h 9 0 a;knows a f;knows a g;knows b f;knows b g;knows c f;knows c h;moon 3;";
        TruthCord x = Check.with(valley, "a lies d f with b with c;day 3;c tells d h;day 4;b tells d g;day 9;");
        plain(x, "has f", 7);
        plain(x, "has g", 1 + 2 + 8);
        plain(x, "has h", 4 + 8);
        // a OWES so, b paid so, c paid in time
        plain(x, "late", 3);
        TruthCord one = Check.with(valley, "a lies d f;day 4;");
        plain(one, "late", 1);

        edges.about("(open ones together; how many there ever were; how many were paid; HURT of all told about him)", 34);
        // b's is the first to be paid, c's, too; a OWES 3, d is HURT by g, a by h (0)
        plain(x, "owes = 3", 1);
        plain(x, "owes = 0", 2 + 4 + 8);
        plain(x, "debts = 1", 7);
        plain(x, "debts = 0", 8);
        plain(x, "paid = 1", 6);
        plain(x, "paid = 0", 9);
        plain(x, "hurt = 3", 8);
        plain(x, "hurt = 0", 7);
        TruthCord y = Check.with(valley, "a lies d f;a hides c g;a tells d g;a tells d f;a tells c g;c sells d h 99;c sells b h 5;");
        plain(y, "debts = 2", 1);
        plain(y, "paid = 2", 1);
        plain(y, "owes = 0", 15);
        plain(y, "hurt = 6", 8);
        plain(y, "hurt = 5", 1);
        plain(y, "coins = 104", 4);
        plain(y, "coins < 0", 2 + 8);

        edges.about("SIGN: < = >.", 34);
        plain(y, "coins < 104", 11);
        plain(y, "coins > 103", 4);
        plain(y, "coins > 104", 0);
        plain(y, "coins < 105", 15);
        plain(y, "hurt < 6", 7);
        plain(y, "hurt > 5", 8);
        plain(y, "hurt > 6", 0);
        plain(y, "owes < 0", 0);
        plain(y, "owes > 0", 0);
        plain(y, "owes < 1", 15);
        plain(y, "owes < 999", 15);
    }
}
