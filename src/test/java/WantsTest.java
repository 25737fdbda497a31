/** Promises 19 (needs) and 20 (buys). */
final class WantsTest {
    private static final Check CHECK = new Check("WantsTest");
    private static final String PEOPLE = "who a;who b;who c;silent 10;";

    public static void main(String[] args) {
        needs();
        buys();
        twelve();
        wrong();
        CHECK.finish();
    }

    private static void needs(String what, String valley, String book, int many, int bits) {
        TruthCord x = Check.with(PEOPLE + valley, book);
        CHECK.due("19 " + what, many, x.needs(0, 0));
        CHECK.due("19 " + what + ", which", bits, x.needs(0, 1));
    }

    private static void buys(String what, String valley, String book, int coins, int bits) {
        TruthCord x = Check.with(PEOPLE + valley, book);
        CHECK.due("20 " + what, coins, x.buys(0, 0));
        CHECK.due("20 " + what + ", which", bits, x.buys(0, 1));
    }

    private static void needs() {
        String base = "fact f 10 0 a;fact g 20 0 a;fact h 30 0 a;fact i 40 0 a;knows a f;";
        needs("nothing is owed", base, "", 0, 0);
        needs("his own does", base, "a hides b f;", 0, 0);
        needs("one more, the least set", base, "a hides b f;a hides c f;", 1, 2);
        needs("two more", base, "a hides b f;a hides c f;a hides b f;", 2, 2 + 4);
        needs("three more", base, Check.times("a hides b f;", 4), 3, 14);
        needs("no set does", base, Check.times("a hides b f;", 5), -1, -1);
        needs("more DEBTS than FACTS can be", base, Check.times("a hides b f;", 13), -1, -1);
        needs("told ones by 'old', cut", base + "old 4;", "a hides b f;a hides c f;", 1, 4);
        needs("told ones by 'old' are too little", base + "old 2;", "a hides b f;a hides c f;", -1, -1);
        needs("his own at its WORTH then: it was told", base, "a hides b f;a hides b f;a tells c f;", 1, 2);
        // f is sold, so its WORTH is 5; found makes the one DEBT 20
        needs("FOUND and grown", base, "a hides b f;a sells b f 1;", 1, 8);
        needs("a great one is kept for the great DEBT", base + "fact j 44 0 b;knows a j;knows b j;old 10;",
            "a hides c j;a hides c f;a hides b f;", 1, 2);
        needs("fewest go ahead of the least set", base + "old 10;", "a hides b f;a sells b f 0;a lies c f;", 1, 2);
        // f and g are told: h follows from them and counts nothing
        needs("what follows counts nothing", base + "since f g h;old 10;", Check.times("a hides b f;", 3), 2, 6);
        needs("nobody need KNOW it", "fact f 9 0 a;fact g 18 0 a;knows a f;", "a hides b f;a hides c f;", 1, 2);
    }

    private static void buys() {
        String base = "fact f 10 0 a;fact g 20 0 a;fact h 30 0 a;fact i 40 0 a;knows a f;knows b g;knows c g;knows b h;knows c i;";
        String two = "a hides b f;a hides c f;";
        buys("nothing is owed", base, "", 0, 0);
        buys("his own does", base + "asks b g 0;", "a hides b f;", 0, 0);
        buys("nobody asks", base, two, -1, -1);
        buys("one asks", base + "asks b g 7;", two, 7, 2);
        buys("the least of two", base + "asks b g 7;asks c g 3;", two, 3, 2);
        buys("the least set of like COINS", base + "asks b g 7;asks c i 7;asks b h 7;", two, 7, 2);
        buys("the cheapest", base + "asks b g 7;asks c i 6;asks b h 8;", two, 6, 8);
        buys("for nothing", base + "asks b g 7;asks c i 0;", two, 0, 8);
        buys("who asks but does not KNOW it", base + "asks c h 1;asks b h 9;", two, 9, 4);
        buys("asked by oneself", base + "asks a g 1;asks c g 2;", two, 2, 2);
        buys("who came to KNOW it sells it", base + "asks c h 1;asks b h 9;", two + "b sells c h 5;", 1, 4);
        buys("two for less", base + "asks b g 3;asks b h 4;asks c i 9;", "a hides b f;a hides c f;a hides c f;", 7, 6);
        buys("too short by 'old'", base + "asks b g 0;asks c i 9;old 4;", two, 9, 8);
        buys("no set does", base + "asks b g 0;", two + "a hides b f;", -1, -1);
        buys("more DEBTS than FACTS can be", base + "asks b g 0;", Check.times("a hides b f;", 14), -1, -1);
        // g and h for nothing pay no more than g alone does
        buys("the fewest of like COINS", base + "asks b g 0;asks b h 0;", two, 0, 2);
        buys("not one that is not needed", base + "asks b h 0;asks c i 0;asks b g 5;", two + "a hides c f;", 0, 12);
    }

    /** As many DEBTS as there can be FACTS, and no FACT of his own is left that pays one. */
    private static void twelve() {
        StringBuilder facts = new StringBuilder("found 40;old 10;");
        for (int i = 0; i < 12; i++) {
            char name = (char) ('m' + i);
            facts.append("fact ").append(name).append(i == 0 ? " 1" : " 99").append(" 0 a;");
            facts.append(i == 0 ? "" : "asks b " + name + " 99;knows b " + name + ";");
        }
        facts.append("knows a m;");
        TruthCord x = Check.with(PEOPLE + facts, Check.times("a hides c m;", 11));
        CHECK.due("19 his own pays one", 10, x.needs(0, 0));
        CHECK.due("19 the least set", 0b11111111110, x.needs(0, 1));
        CHECK.due("20 ten for 99", 990, x.buys(0, 0));
        CHECK.due("20 the least set", 0b11111111110, x.buys(0, 1));
        Check.book(x, Check.times("a hides c m;", 12));
        CHECK.due("19 twelve DEBTS", 11, x.needs(0, 0));
        CHECK.due("19 all but his own", 0b111111111110, x.needs(0, 1));
        CHECK.due("20 eleven for 99", 1089, x.buys(0, 0));
        CHECK.due("20 all but his own", 0b111111111110, x.buys(0, 1));
        Check.book(x, Check.times("a hides c m;", 12) + "a sells c m 0;");
        CHECK.due("19 his own pays none: they are FOUND", TruthCord.NONE, x.needs(0, 0));
        Check.book(x, Check.times("a hides c m;", 11) + "a sells c m 0;");
        CHECK.due("19 the eleven others", 11, x.needs(0, 0));
        Check.book(x, Check.times("a hides c m;", 13));
        CHECK.due("19 thirteen DEBTS", TruthCord.NONE, x.needs(0, 0));
        CHECK.due("20 thirteen DEBTS", TruthCord.NONE, x.buys(0, 1));
    }

    private static void wrong() {
        TruthCord x = Check.with(PEOPLE + "fact f 10 0 a;knows a f;", "a hides b f;");
        int[][] none = {{3, 0}, {-1, 0}, {0, 2}, {0, -1}, {8, 1}, {Integer.MIN_VALUE, 0}, {0, Integer.MAX_VALUE}};
        for (int[] pair : none) {
            CHECK.due("19 needs(" + pair[0] + ", " + pair[1] + ")", TruthCord.NONE, x.needs(pair[0], pair[1]));
            CHECK.due("20 buys(" + pair[0] + ", " + pair[1] + ")", TruthCord.NONE, x.buys(pair[0], pair[1]));
        }
        CHECK.due("19 another one", 0, x.needs(2, 0));
        CHECK.due("20 another one", 0, x.buys(2, 1));
    }
}
