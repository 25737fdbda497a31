/** Promises 17 (feast) and 18 (feastAt). */
final class FeastTest {
    private static final Check CHECK = new Check("FeastTest");

    public static void main(String[] args) {
        String three = "who a;who b;fact f 10 5 b;fact g 10 2 b;fact h 10 2 b;knows a f;knows a g;knows a h;";
        feast("nothing is owed", three, "", 0, 0);
        feast("the least HURT, of like ones the lesser FACT", three, "a lies b f;", 1, 2, 1);
        feast("two", three, "a lies b f;a lies b g;", 2, 4, 1, 2);
        feast("three", three, "a lies b f;a lies b g;a lies b h;", 3, 9, 0, 1, 2);
        feast("none behind all", three, "a lies b f;a lies b g;a lies b h;a lies b f;", 3, 9, 0, 1, 2, -1);
        feast("a paid one is none of them", three, "a lies b f;a tells b h;a lies b g;", 1, 2, 1);
        String order = "who a;who b;who c;fact f 30 0 c;fact g 6 0 c;fact h 9 9 c;knows a f;knows a g;knows a h;secret 10;silent 10;";
        feast("most DEBTS go ahead of least HURT", order, "a hides b g;a hides b f;a hides b h;", 3, 9, 1, 0, 2);
        feast("the lesser FACT to the first", order, "a hides b g;a hides b g;", 2, 0, 0, 1);
        feast("so that the second is paid, too", order, "a hides b g;a hides b f;", 2, 0, 1, 0);
        feast("a WORTH that is no less", order, "a hides b g;a hides b g;a hides b g;", 3, 9, 0, 1, 2);
        feast("too dear for all", order + "old 0;", "a lies b f;a sells c f 0;", 0, 0, -1);
        String spread = "who a;who b;fact f 5 1 b;fact g 5 0 b;fact h 5 3 b;knows a f;knows a g;knows a h;knows b g;silent 10;";
        feast("everybody KNOWS g", spread, "a hides b f;", 1, 1, 0);
        feast("of its own: not twice one FACT, by two who OWE neither", spread + "who c;knows b f;", "a hides c f;b hides c f;a hides c g;",
            3, 4, 0, 1, 2);
        String one = "who a;who b;who c;fact f 5 1 c;knows a f;knows b f;silent 10;";
        feast("a FACT of its own, for the first of two who OWE", one, "b hides c f;a hides c f;", 1, 1, 0, -1);
        feast("his own WORTH", "who a;who b;who c;fact f 5 1 a;fact g 9 1 a;knows a f;knows b g;silent 10;old 1;",
            "a hides c f;b hides c g;b hides a g;", 2, 2, 0, 1, -1);
        eight();
        wrong(three);
        CHECK.finish();
    }

    private static void feast(String what, String valley, String book, int paid, int hurt, int... at) {
        TruthCord x = Check.with(valley, book);
        CHECK.due("17 " + what, paid, x.feast(0));
        CHECK.due("17 " + what + ", HURT", hurt, x.feast(1));
        for (int k = 0; k < at.length; k++) {
            CHECK.due("18 " + what + ", " + k, at[k], x.feastAt(k));
        }
        CHECK.due("18 " + what + ", no such one", TruthCord.NONE, x.feastAt(at.length));
        CHECK.due("17 nothing is told by it", at.length, x.autumn(1));
    }

    private static void eight() {
        StringBuilder valley = new StringBuilder("who a;who b;");
        for (int i = 0; i < 12; i++) {
            char name = (char) ('m' + i);
            valley.append("fact ").append(name).append(" 9 ").append(20 - i).append(" b;knows a ").append(name).append(';');
        }
        TruthCord x = Check.with(valley.toString(), Check.times("a lies b m;", 11));
        CHECK.due("17 the first 8 alone", 8, x.feast(0));
        CHECK.due("17 their HURT", 16 + 15 + 14 + 13 + 12 + 11 + 10 + 9, x.feast(1));
        for (int k = 0; k < 8; k++) {
            CHECK.due("18 feastAt(" + k + ")", 4 + k, x.feastAt(k));
        }
        CHECK.due("18 no ninth", TruthCord.NONE, x.feastAt(8));
        x = Check.with(valley.toString().replaceAll(" 9 \\d+ b", " 9 99 b"), Check.times("a lies b m;", 11));
        CHECK.due("18 ahead of any feast()", 7, x.feastAt(7));
        CHECK.due("17 the greatest HURT", 8 * 99, x.feast(1));
        CHECK.due("17 of eight", 8, x.feast(0));
        x = Check.with(valley.toString().replaceAll(" 9 \\d+ b", " 9 99 b"), "a lies b m;" + Check.times("a lies b n;", 3));
        CHECK.due("17 of four", 4, x.feast(0));
        CHECK.due("17 the greatest HURT of four", 4 * 99, x.feast(1));
    }

    private static void wrong(String valley) {
        TruthCord x = Check.with(valley, "a lies b f;");
        for (int what : new int[] {-1, 2, Integer.MIN_VALUE, Integer.MAX_VALUE}) {
            CHECK.due("17 feast(" + what + ")", TruthCord.NONE, x.feast(what));
            CHECK.due("18 feastAt(" + what + ")", TruthCord.NONE, x.feastAt(what));
        }
        CHECK.due("18 feastAt(0)", 1, x.feastAt(0));
        Check.book(x, "a lies b f;a tells b g;");
        CHECK.due("17 another BOOK has another FEAST", 0, x.feast(0));
        CHECK.due("18 and none at 0", TruthCord.NONE, x.feastAt(0));
    }
}
