/** Boundary cases of what could be done at the end of a BOOK: promises 17 to 20, 24 to 27. */
final class EdgesOfChoices {
    private static final int[] FAR = {Integer.MIN_VALUE, -2, 61, 1000, Integer.MAX_VALUE};

    private final Edges edges;

    private EdgesOfChoices(Edges edges) {
        this.edges = edges;
    }

    static void run(Edges edges) {
        EdgesOfChoices all = new EdgesOfChoices(edges);
        all.firstEight();
        all.factOfItsOwn();
        all.mostDebts();
        all.feast();
        all.needs();
        all.needsSets();
        all.needsNone();
        all.buys();
        all.buysSets();
        all.order();
        all.orderTape();
        all.orderAt();
        all.ripple();
        all.unsaid();
    }

    /** The FEAST of a BOOK: how many, HURT, and the FACT of each open DEBT. */
    private void feast(String what, String valley, String book, int paid, int hurt, int... at) {
        TruthCord x = Check.with(valley, book);
        edges.due(what + ", how many", paid, x.feast(0));
        edges.due(what + ", HURT", hurt, x.feast(1));
        for (int k = 0; k < at.length; k++) {
            edges.due(what + ", feastAt(" + k + ")", at[k], x.feastAt(k));
        }
        edges.due(what + ", no such one", -1, x.feastAt(at.length));
    }

    /** Twelve FACTS m to x of LENGTH 9 about b, which a alone KNOWS. */
    private static String twelve(String hurt) {
        StringBuilder all = new StringBuilder("who a;who b;who c;secret 10;");
        for (char f = 'm'; f < 'm' + 12; f++) {
            all.append("fact ").append(f).append(" 9 ").append(hurt).append(" b;knows a ").append(f).append(';');
        }
        return all.toString();
    }

    private void firstEight() {
        edges.about("of the first 8 open DEBTS", 17, 18);
        feast("seven", twelve("1"), Check.times("a lies b m;", 7), 7, 7, 0, 1, 2, 3, 4, 5, 6);
        feast("eight", twelve("1"), Check.times("a lies b m;", 8), 8, 8, 0, 1, 2, 3, 4, 5, 6, 7);
        feast("nine", twelve("1"), Check.times("a lies b m;", 9), 8, 8, 0, 1, 2, 3, 4, 5, 6, 7);
        feast("the greatest HURT", twelve("99"), Check.times("a lies b m;", 12), 8, 792, 0, 1, 2, 3, 4, 5, 6, 7);
        feast("paid ones are none of them", twelve("0"), Check.times("a lies b m;", 4) + "a tells c w;a tells c x;" + Check.times("a lies b m;", 7), 8, 0,
            0, 1, 2, 3, 4, 5, 6, 7);
        feast("a paid one alone", twelve("1"), "a lies b m;a tells c x;", 0, 0);
        feast("a paid one ahead of an open one", twelve("1"), "a lies b m;a tells c x;a lies b m;", 1, 1, 0);
        // the first eight can't be paid by anything: the ninth is not looked at
        feast("eight that are too dear", "who a;who b;fact f 99 0 b;fact g 1 0 b;knows a f;knows a g;old 0;found 40;",
            Check.times("a lies b f;", 8) + "a lies b g;a sells b f 0;", 0, 0, -1, -1, -1, -1, -1, -1, -1, -1);
        feast("none", twelve("1"), "", 0, 0);
    }

    private void factOfItsOwn() {
        edges.about("each may be paid by a FACT of its own that who OWES KNOWS, somebody does not, and the WORTH of which is no less", 17, 18);
        String one = "who a;who b;who c;fact f 9 1 c;fact g 9 2 b;knows a f;knows b f;silent 10;secret 11;old 5;";
        feast("one FACT pays one DEBT", one, "a hides c f;a hides c f;", 1, 1, 0, -1);
        feast("also if another one OWES", one, "b hides c f;a hides c f;", 1, 1, 0, -1);
        feast("who OWES does not KNOW g", one + "knows c g;", "a hides c f;a hides c f;", 1, 1, 0, -1);
        feast("everybody KNOWS it", "who a;who b;who c;fact f 9 1 c;knows a f;knows b f;silent 10;old 10;found 10;", "a hides c f;b sells c f 0;",
            0, 0, -1);
        feast("somebody does not", "who a;who b;who c;fact f 9 1 c;knows a f;knows b f;silent 10;old 10;found 10;who d;", "a hides c f;b sells c f 0;",
            1, 1, 0);
        feast("the first WHO alone does not KNOW it", "who a;who b;who c;fact f 9 1 a;fact g 9 0 a;knows b f;knows b g;knows c f;knows a g;knows c g;",
            "b lies a f;", 1, 1, 0);
        feast("the last WHO alone does not KNOW it", "who a;who b;who c;fact f 9 1 a;fact g 9 0 a;knows a f;knows a g;knows b g;knows b f;knows c g;",
            "b lies c f;", 1, 1, 0);
        feast("the first FACT is known to everybody", "who a;who b;fact f 9 0 a;fact g 9 5 a;knows a f;knows a g;knows b f;", "a lies b g;", 1, 5, 1);
        feast("just its WORTH", "who a;who b;fact f 9 1 a;fact g 8 0 a;knows a f;knows a g;", "a lies b f;", 1, 1, 0);
        feast("a DEBT of 1", "who a;who b;fact f 1 1 a;knows a f;", "a lies b f;", 1, 1, 0);
        feast("a secret of 13 for a DEBT of 14", "who a;who b;who c;fact f 9 1 b;fact g 14 0 a;knows a f;knows a g;knows b g;old 9;",
            "a lies c g;a sells c g 0;", 0, 0, -1);
        feast("a secret of 13 for one of 13", "who a;who b;who c;fact f 9 1 b;fact g 13 0 a;knows a f;knows a g;old 9;found 10;",
            "a lies c g;a sells c g 0;", 1, 1, 0);
        feast("a FACT of its own, of three who OWE", "who a;who b;who c;who d;fact f 3 0 d;fact g 3 0 d;fact h 3 0 d;knows a f;knows b f;knows c f;"
            + "knows b g;knows c g;knows c h;", "c lies d f;b lies d f;a lies d f;", 3, 0, 2, 1, 0);
    }

    private void mostDebts() {
        edges.about("the most DEBTS; of like ones the least HURT together; of like ones the first (DEBT by DEBT the lesser FACT, none behind all).", 17, 18);
        String order = "who a;who b;fact f 30 0 a;fact g 6 0 a;fact h 9 99 a;knows a f;knows a g;knows a h;silent 10;";
        feast("the most DEBTS ahead of the least HURT", order, "a hides b g;a hides b f;a hides b h;", 3, 99, 1, 0, 2);
        feast("two without HURT ahead of two with it", order, "a hides b g;a hides b h;", 2, 0, 1, 0);
        feast("one of two DEBTS, the lesser HURT", order, "a hides b h;a sells b f 0;a hides b h;", 1, 99, 2, -1);
        String like = "who a;who b;fact f 9 5 a;fact g 9 4 a;fact h 9 4 a;fact i 9 5 a;knows a f;knows a g;knows a h;knows a i;silent 10;";
        feast("the least HURT", like, "a hides b f;", 1, 4, 1);
        feast("the lesser FACT to the first", like, "a hides b f;a hides b f;", 2, 8, 1, 2);
        feast("of like HURT the lesser FACT", like, "a hides b f;a hides b f;a hides b f;", 3, 13, 0, 1, 2);
        feast("none behind all", like, Check.times("a hides b f;", 5), 4, 18, 0, 1, 2, 3, -1);
        String two = "who a;who b;who c;fact f 9 0 a;fact g 9 0 a;fact h 9 0 a;knows a f;knows b f;knows b g;silent 10;";
        feast("none for the second rather than the first", two + "knows b h;", "a hides c f;a hides c f;b hides c f;", 2, 0, 0, -1, 1);
        feast("DEBT by DEBT", two, "b hides c f;a hides c f;", 2, 0, 1, 0);
        feast("the last FACT of twelve", "who a;who b;" + twelve("9").substring(18).replace("fact x 9 9", "fact x 9 8"), "a lies b m;", 1, 8, 11);
    }

    private void feast() {
        edges.about("how many DEBTS (what 0), HURT (1). NONE: another what.", 17);
        TruthCord x = Check.with(twelve("1"), "a lies b m;");
        edges.all("as told", new int[] {1, 1}, x.feast(0), x.feast(1));
        edges.all("another what", new int[] {-1, -1}, x.feast(2), x.feast(-1));
        for (int n : FAR) {
            edges.due("feast(" + n + ")", -1, x.feast(n));
        }

        edges.about("The FACT that pays the k-th open DEBT (of the first 8) in the FEAST; NONE: none, no such one.", 18);
        edges.all("one, no second, none ahead", new int[] {0, -1, -1}, x.feastAt(0), x.feastAt(1), x.feastAt(-1));
        for (int n : FAR) {
            edges.due("feastAt(" + n + ")", -1, x.feastAt(n));
        }
        Check.book(x, Check.times("a lies b m;", 9));
        edges.all("the eighth and no ninth", new int[] {7, -1}, x.feastAt(7), x.feastAt(8));
        Check.book(x, "");
        edges.due("none in another BOOK", -1, x.feastAt(0));
    }

    private void needs(String what, String valley, String book, int many, int bits) {
        TruthCord x = Check.with("who a;who b;who c;silent 10;" + valley, book);
        edges.due(what + ", how many", many, x.needs(0, 0));
        edges.due(what + ", which", bits, x.needs(0, 1));
    }

    private void needs() {
        edges.about("the fewest FACTS that he does not KNOW, told to him, with which each of his open DEBTS can be paid by a FACT of its own", 19);
        String base = "fact f 10 0 a;fact g 20 0 a;fact h 30 0 a;fact i 40 0 a;knows a f;";
        needs("nothing is owed", base, "", 0, 0);
        needs("his own does", base, "a hides b f;", 0, 0);
        needs("one", base, "a hides b f;a hides b f;", 1, 2);
        needs("two", base, Check.times("a hides b f;", 3), 2, 6);
        needs("three", base, Check.times("a hides b f;", 4), 3, 14);
        needs("as many DEBTS as FACTS, and one more", base, Check.times("a hides b f;", 5), -1, -1);
        needs("a paid one is none", base, "a hides b f;a hides b f;a tells c f;", 1, 2);
        needs("all are paid", "fact f 10 0 a;fact g 20 0 a;knows a f;knows a g;", "a hides b f;a tells b g;", 0, 0);
        needs("a paid one needs no FACT of its own", "fact f 10 0 a;fact g 20 0 a;fact j 5 0 a;knows a f;knows a j;", Check.times("a hides b j;", 3) + "a tells c f;",
            0, 0);
        needs("another one's are none", base + "knows b f;", "a hides c f;b hides c f;", 0, 0);
        needs("the first FACT is told to him", "fact e 20 0 a;fact f 10 0 a;knows a f;", "a hides b f;a hides b f;", 1, 1);
        // the DEBTS come rising and falling; the greatest must have the greatest FACT
        needs("great ones for great ones", "fact f 10 0 a;fact g 20 0 a;fact h 30 0 a;fact i 60 0 a;fact j 40 0 a;knows a f;knows a g;knows a h;",
            "a hides b f;a hides b g;a hides b h;a hides b h;", 1, 8);
        needs("one that pays the least suffices", "fact f 10 0 a;fact g 20 0 a;fact h 30 0 a;fact i 20 0 a;fact j 80 0 a;knows a f;knows a g;knows a h;",
            "a hides b h;a hides b f;a hides b g;a hides b f;", 1, 8);
        needs("a lesser DEBT counts ahead of greater ones", "fact f 10 0 a;fact g 20 0 a;fact h 30 0 a;fact i 18 0 a;fact j 20 0 a;knows a f;knows a g;knows a h;",
            "a sells c f 0;a hides b f;a hides b g;a hides b h;", 1, 16);
        StringBuilder all = new StringBuilder("old 10;");
        for (char f = 'm'; f < 'm' + 12; f++) {
            all.append("fact ").append(f).append(" 9 0 a;");
        }
        needs("twelve DEBTS, eleven of twelve FACTS", all + "knows a x;", Check.times("a hides b x;", 12), 11, 0b011111111111);
        needs("thirteen DEBTS", all + "knows a x;", Check.times("a hides b x;", 13), -1, -1);
        TruthCord x = Check.with("who a;who b;who c;silent 10;" + base + "knows b i;", "a hides c f;a hides c f;b hides c i;");
        edges.all("one and then another", new int[] {2, 0, 2, 0}, x.needs(0, 1), x.needs(1, 1), x.needs(0, 1), x.needs(2, 1));
    }

    private void needsSets() {
        edges.about("his own at their WORTH, those told by LENGTH times 'old' by 10, cut; what follows counts nothing; of like ones the least set as bits", 19);
        String base = "fact f 10 0 a;fact g 19 0 a;fact h 20 0 a;fact i 30 0 a;knows a f;";
        needs("9 of 19, cut, is too little, 10 of 20 is not", base, "a hides b f;a hides b f;", 1, 4);
        needs("'old' 0", base + "old 0;", "a hides b f;a hides b f;", -1, -1);
        needs("'old' 10", base + "old 10;", "a hides b f;a hides b f;", 1, 2);
        needs("a secret of his own is worth more", "fact f 10 0 b;fact g 15 0 a;fact h 40 0 a;knows a f;knows a g;secret 15;", "a hides b g;a hides b f;", 0, 0);
        needs("a secret of his own is not worth enough", "fact f 10 0 b;fact g 16 0 a;fact h 40 0 a;knows a f;knows a g;secret 15;",
            "a hides b g;a hides b g;", 1, 4);
        needs("one told to him is no secret", "fact f 10 0 a;fact g 10 0 b;knows a f;old 9;secret 30;", "a hides b f;a hides b f;", -1, -1);
        needs("his own that was told is old", base, "a hides b f;a tells c f;a hides b f;", 1, 4);
        needs("what follows counts nothing", "fact f 10 0 a;fact g 20 0 a;fact h 20 0 a;knows a f;since f g h;", Check.times("a hides b f;", 3), 2, 6);
        needs("the least set", base + "old 10;", "a hides b f;a hides b f;a hides b f;", 2, 6);
    }

    private void needsNone() {
        edges.about("NEEDS of a WHO: how many (what 0), which, as bits (1). NONE: no set does, no such ones.", 19);
        TruthCord x = Check.with("who a;who b;who c;silent 10;fact f 9 0 a;knows a f;", "a hides b f;a hides b f;");
        edges.all("no set does", new int[] {-1, -1}, x.needs(0, 0), x.needs(0, 1));
        edges.all("who OWES nothing", new int[] {0, 0}, x.needs(2, 0), x.needs(2, 1));
        edges.all("no such ones", new int[] {-1, -1, -1, -1}, x.needs(3, 0), x.needs(-1, 0), x.needs(2, 2), x.needs(2, -1));
        for (int n : FAR) {
            edges.due("needs(" + n + ", 0)", -1, x.needs(n, 0));
            edges.due("needs(2, " + n + ")", -1, x.needs(2, n));
        }

        edges.about("BUYS of a WHO: COINS (what 0), which, as bits (1). NONE: no set does, no such ones.", 20);
        edges.all("no set does", new int[] {-1, -1}, x.buys(0, 0), x.buys(0, 1));
        edges.all("who OWES nothing", new int[] {0, 0}, x.buys(2, 0), x.buys(2, 1));
        edges.all("no such ones", new int[] {-1, -1, -1, -1}, x.buys(3, 0), x.buys(-1, 0), x.buys(2, 2), x.buys(2, -1));
        for (int n : FAR) {
            edges.due("buys(" + n + ", 0)", -1, x.buys(n, 0));
            edges.due("buys(2, " + n + ")", -1, x.buys(2, n));
        }
    }

    private void buys(String what, String valley, String book, int coins, int bits) {
        TruthCord x = Check.with("who a;who b;who c;silent 10;" + valley, book);
        edges.due(what + ", COINS", coins, x.buys(1, 0));
        edges.due(what + ", which", bits, x.buys(1, 1));
    }

    private void buys() {
        edges.about("(of each FACT the least that somebody else who KNOWS it asks; who asks nothing sells nothing)", 20);
        String base = "fact f 10 0 a;fact g 20 0 a;fact h 20 0 a;knows b f;knows a g;knows c g;";
        String two = "b hides a f;b hides a f;";
        buys("nobody asks", base, two, -1, -1);
        buys("the first WHO asks", base + "asks a g 5;", two, 5, 2);
        buys("the last WHO asks", base + "asks c g 5;", two, 5, 2);
        buys("the least of two", base + "asks a g 5;asks c g 4;", two, 4, 2);
        buys("the least of two, the other way", base + "asks a g 4;asks c g 5;", two, 4, 2);
        buys("the same of two", base + "asks a g 4;asks c g 4;", two, 4, 2);
        buys("0 COINS are asked", base + "asks a g 0;asks c g 4;", two, 0, 2);
        buys("99 COINS are asked", base + "asks a g 99;", two, 99, 2);
        buys("who asks does not KNOW it", base + "asks a h 1;asks c h 0;asks a g 7;", two, 7, 2);
        buys("nobody who KNOWS it asks", base + "asks a h 1;asks c h 0;", two, -1, -1);
        buys("he asks himself", base + "asks b g 1;asks b f 1;", two, -1, -1);
        buys("who KNOWS it at the end", base + "knows a h;asks c h 3;", two + "a tells c h;", 3, 4);
    }

    private void buysSets() {
        edges.about("BUYS: likewise, the set for which the least COINS are asked together", 20);
        String base = "fact f 10 0 a;fact g 20 0 a;fact h 20 0 a;fact i 40 0 a;knows b f;knows a g;knows c h;knows c i;";
        String two = "b hides a f;b hides a f;";
        buys("nothing is owed", base + "asks a g 5;", "", 0, 0);
        buys("his own does", base + "asks a g 0;", "b hides a f;", 0, 0);
        buys("the cheaper one", base + "asks a g 5;asks c h 4;", two, 4, 4);
        buys("two together", base + "asks a g 50;asks c h 50;asks c i 99;", two + "b hides a f;", 100, 6);
        buys("told ones by 'old'", base + "asks a g 1;asks c i 9;old 4;", two, 9, 8);
        StringBuilder all = new StringBuilder("old 10;fact m 1 0 a;knows b m;");
        for (char f = 'n'; f < 'm' + 12; f++) {
            all.append("fact ").append(f).append(" 9 0 a;knows c ").append(f).append(";asks c ").append(f).append(" 99;");
        }
        buys("eleven for 99 each", all.toString(), Check.times("b hides a m;", 12), 1089, 0b111111111110);
        buys("twelve are too many", all.toString(), Check.times("b hides a m;", 13), -1, -1);

        edges.about("of like ones the fewest FACTS, then the least set as bits.", 20);
        buys("the fewest", base + "asks a g 0;asks c h 0;asks c i 0;", two, 0, 2);
        buys("one for 2, the lesser of two, and not one for 4", "fact f 10 0 a;fact g 20 0 a;fact h 20 0 a;fact i 40 0 a;fact j 9 0 a;knows b f;knows b j;knows a g;"
            + "knows a h;knows a i;asks a g 2;asks a h 2;asks a i 4;old 10;", "b hides a f;b hides a f;b hides a j;", 2, 2);
        buys("the least set", base + "asks a g 3;asks c h 3;asks c i 3;", two, 3, 2);
        buys("the least set of two", base + "asks a g 3;asks c h 3;asks c i 3;", two + "b hides a f;", 6, 6);
        buys("the least COINS ahead of the fewest", base + "knows b g;asks c h 1;asks c i 99;", "b hides a f;b hides a f;b hides a f;", 1, 4);
        TruthCord x = Check.with("who a;who b;who c;silent 10;fact e 20 0 a;fact f 10 0 a;knows b f;knows a e;asks a e 7;", two);
        edges.all("the first FACT is bought", new int[] {7, 1}, x.buys(1, 0), x.buys(1, 1));
        edges.all("one and then another", new int[] {0, 7}, x.buys(0, 0), x.buys(1, 0));
    }

    private static final String TELLERS = "who a;who b;who c;fact f 10 5 c;fact g 6 1 b;fact h 30 0 a;knows a f;knows a g;knows c h;silent 10;";

    private void ordered(String what, TruthCord x, int[] tape, int owed, int... turns) {
        Check.tape(x, tape);
        edges.due(what, owed, x.order());
        for (int i = 0; i < turns.length; i++) {
            edges.due(what + ", orderAt(" + i + ")", turns[i], x.orderAt(i));
        }
        edges.due(what + ", no more", -1, x.orderAt(turns.length));
    }

    private void order() {
        edges.about("done behind the BOOK, like LINES that tell): the one behind which the least is OWED in all; of like ones the fewest that are WRONG; "
            + "of like ones the first (telling by telling, as told).", 24, 25);
        TruthCord x = Check.with(TELLERS, "a lies b g;a lies c f;");
        // f is worth 15 and g 9: only g first pays both
        ordered("the least is OWED", x, new int[] {0, 1, 0, 0, 1, 1}, 0, 1, 0);
        ordered("the least is OWED, as told", x, new int[] {0, 1, 1, 0, 1, 0}, 0, 0, 1);
        ordered("the fewest WRONG", x, new int[] {1, 2, 1, 0, 1, 1}, 10, 1, 0);
        ordered("the first of like ones", x, new int[] {2, 1, 2, 2, 0, 2, 0, 2, 1}, 10, 0, 1, 2);
        ordered("all are WRONG", x, new int[] {1, 0, 2, 2, 0, 0, 1, 2, 1}, 16, 0, 1, 2);
        TruthCord y = Check.with(TELLERS + "old 1;", "a lies c f;");
        ordered("the least OWED with a WRONG one ahead of none", y, new int[] {0, 2, 0, 0, 2, 1, 2, 1, 0}, 0, 0, 1, 2);
        ordered("what is FOUND grows", Check.with(TELLERS + "old 0;", "a lies b f;a sells c f 0;"), new int[] {0, 1, 0}, 20, 0);
        TruthCord z = Check.with(TELLERS, "c lies b h;");
        ordered("another one's DEBT", z, new int[] {2, 0, 2, 0, 1, 0}, 0, 0, 1);
        ordered("nothing is done by it", z, new int[] {0, 1, 0}, 30, 0);
        edges.due("the BOOK is as it was", 30, z.autumn(0));
        Check.book(z, "a lies b g;");
        ordered("in another BOOK", z, new int[] {2, 0, 2, 0, 1, 0}, 0, 0, 1);
        String chain = "who a;who b;who c;who d;who e;who x;fact f 1 1 a;knows a f;";
        ordered("the last of 120 orders", Check.with(chain, ""), new int[] {4, 5, 0, 3, 4, 0, 2, 3, 0, 1, 2, 0, 0, 1, 0}, 0, 4, 3, 2, 1, 0);
        ordered("the one ahead of it", Check.with(chain, ""), new int[] {3, 4, 0, 4, 5, 0, 2, 3, 0, 1, 2, 0, 0, 1, 0}, 0, 4, 3, 2, 0, 1);
        ordered("one in the middle", Check.with(chain, ""), new int[] {1, 2, 0, 4, 5, 0, 0, 1, 0, 3, 4, 0, 2, 3, 0}, 0, 2, 0, 4, 3, 1);
    }

    private void orderTape() {
        edges.about("ORDER of the tape's tellings (three bytes each, 1 to 5 of them, who and to whom unlike): what is OWED in all then; NONE: not as told.", 24);
        TruthCord x = Check.with(TELLERS, "a lies b g;");
        ordered("one", x, new int[] {2, 1, 2}, 6, 0);
        ordered("five", x, new int[] {2, 1, 2, 2, 0, 2, 2, 1, 2, 2, 0, 2, 2, 1, 2}, 6, 0, 1, 2, 3, 4);
        int[][] none = {{}, {0}, {0, 1}, {0, 1, 0, 0}, {0, 1, 0, 0, 1}, {2, 1, 2, 2, 0, 2, 2, 1, 2, 2, 0, 2, 2, 1, 2, 2, 1, 2}, {0, 0, 0}, {2, 2, 2},
            {3, 0, 0}, {0, 3, 0}, {0, 1, 3}, {255, 0, 0}, {0, 255, 0}, {0, 1, 255}, {2, 1, 2, 0, 0, 0}, {2, 1, 2, 2, 1, 3}, new int[60]};
        for (int[] tape : none) {
            Check.tape(x, tape);
            edges.due("a tape of " + tape.length, -1, x.order());
        }
        Check.tape(x, 2, 1, 2, 2, 0, 2, 2, 1, 2, 2, 0, 2, 2, 1, 2, 0);
        edges.due("a byte too many", -1, x.order());
        TruthCord y = new TruthCord();
        Check.tape(y, 0, 1, 0);
        edges.due("nobody is there", -1, y.order());
    }

    private void orderAt() {
        edges.about("The telling (its place on the tape, from 0) that is the i-th by the latest order() that was not NONE; "
            + "NONE: there is none such, or ahead of any.", 25);
        TruthCord x = Check.with(TELLERS, "a lies b g;a lies c f;");
        edges.all("ahead of any", new int[] {-1, -1, -1}, x.orderAt(0), x.orderAt(-1), x.orderAt(4));
        x.order();
        edges.due("behind one that is NONE", -1, x.orderAt(0));
        ordered("the latest", x, new int[] {0, 1, 0, 0, 1, 1}, 0, 1, 0);
        x.order();
        edges.all("one that is NONE is not it", new int[] {1, 0, -1}, x.orderAt(0), x.orderAt(1), x.orderAt(2));
        Check.tape(x, 0, 0, 0);
        x.order();
        edges.all("nor is one that is not as told", new int[] {1, 0}, x.orderAt(0), x.orderAt(1));
        ordered("a shorter one", x, new int[] {0, 2, 1}, 10, 0);
        edges.due("orderAt(-1)", -1, x.orderAt(-1));
        for (int n : FAR) {
            edges.due("orderAt(" + n + ")", -1, x.orderAt(n));
        }
        Check.valley(x, "");
        edges.due("it stays in a new VALLEY", 0, x.orderAt(0));
    }

    private void ripple() {
        edges.about("RIPPLE: if one told another one a FACT: what that one KNOWS then and did not; open DEBTS that are FOUND by it.", 26);
        String valley = "who a;who b;who c;fact f 9 0 a;fact g 1 0 a;fact h 7 0 a;since f g h;knows a f;knows a g;knows b g;secret 10;found 15;";
        TruthCord x = Check.with(valley, "a lies b f;a lies b h;a lies c f;a lies b f;a tells c f;a lies c g;");
        // the first is paid, by f; the lie to c is found: 14
        edges.all("what is new to b, how many, what is OWED", new int[] {5, 2, 7 + 14 + 9 + 1 + 4 + 5}, x.ripple(0, 1, 0, 0), x.ripple(0, 1, 0, 1), x.ripple(0, 1, 0, 2));
        edges.all("what is new to c", new int[] {6, 1, 7 + 14 + 9 + 2}, x.ripple(1, 2, 1, 0), x.ripple(1, 2, 1, 1), x.ripple(1, 2, 1, 2));
        edges.due("nothing is told by it", 31, x.autumn(0));
        edges.due("nor FOUND", 1, x.autumn(3));

        edges.about("what is new to b, as bits (what 0), how many DEBTS are FOUND (1), what is OWED in all then (2; nothing is paid). "
            + "NONE: a does not KNOW it, b does, no such ones.", 26);
        TruthCord y = Check.with(valley, "a lies c f;");
        edges.all("nothing is paid", new int[] {5, 0, 9}, y.ripple(0, 1, 0, 0), y.ripple(0, 1, 0, 1), y.ripple(0, 1, 0, 2));
        edges.all("one of 1", new int[] {1, 2}, Check.with(valley, "a lies c g;").ripple(0, 2, 1, 1), Check.with(valley, "a lies c g;").ripple(0, 2, 1, 2));
        for (int what = 0; what < 3; what++) {
            edges.due("a does not KNOW it", -1, y.ripple(1, 2, 0, what));
            edges.due("b does", -1, y.ripple(0, 1, 1, what));
            edges.due("a and b are one", -1, y.ripple(0, 0, 0, what));
            edges.due("a and b are one who does not KNOW it", -1, y.ripple(2, 2, 0, what));
        }
        int[][] none = {{3, 1, 0, 0}, {-1, 1, 0, 0}, {0, 3, 0, 0}, {0, -1, 0, 0}, {0, 1, 3, 0}, {0, 1, -1, 0}, {0, 1, 0, 3}, {0, 1, 0, -1}};
        for (int[] n : none) {
            edges.due("ripple(" + n[0] + ", " + n[1] + ", " + n[2] + ", " + n[3] + ")", -1, y.ripple(n[0], n[1], n[2], n[3]));
        }
        for (int n : FAR) {
            edges.all("far away: " + n, new int[] {-1, -1, -1, -1}, y.ripple(n, 1, 0, 0), y.ripple(0, n, 0, 0), y.ripple(0, 1, n, 0), y.ripple(0, 1, 0, n));
        }
    }

    private void unsaid() {
        edges.about("UNSAID: what is OWED in all (open DEBTS), if one LINE were not there.", 27);
        TruthCord x = Check.with(TELLERS, "day 3;a lies b g;a lies c f;a tells b g;a sells c f 5;c lies b f;c tells a f;day 9;");
        // LINE 4 finds 10: 20; without it LINE 5 is WRONG; LINE 6 is WRONG
        edges.due("with all", 30, x.autumn(0));
        edges.all("each of them", new int[] {30, 30, 10, 36, 10, 20, 30, 30}, x.unsaid(0), x.unsaid(1), x.unsaid(2), x.unsaid(3), x.unsaid(4), x.unsaid(5),
            x.unsaid(6), x.unsaid(7));
        edges.due("nothing is undone by it", 30, x.autumn(0));

        edges.about("UNSAID LINE i; NONE: no such one.", 27);
        edges.all("no such one", new int[] {-1, -1}, x.unsaid(8), x.unsaid(-1));
        for (int n : FAR) {
            edges.due("unsaid(" + n + ")", -1, x.unsaid(n));
        }
        edges.due("of one alone", 0, Check.with(TELLERS, "a lies b g;").unsaid(0));
        edges.due("without a BOOK", -1, Check.with(TELLERS, "").unsaid(0));
        TruthCord y = Check.with(TELLERS, Check.times("a lies b g;", 60));
        edges.all("the 60th and no more", new int[] {354, -1}, y.unsaid(59), y.unsaid(60));
    }
}
