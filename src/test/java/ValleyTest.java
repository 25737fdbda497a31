/** Promises 4 (valley), 5 (fault), 6 (fact) and 7 (knows). */
final class ValleyTest {
    private static final Check CHECK = new Check("ValleyTest");
    private static final String PEOPLE_AND_FACTS = "who a;who b;fact f 10 5 a;fact g 20 7 b;fact h 8 0 b;";
    private static final String WORDS = "who fact knows since asks moon old secret silent found day lies hides tells sells with "
        + "or and not has late owes debts paid hurt coins";

    public static void main(String[] args) {
        lines();
        tokens();
        numbers();
        names();
        many();
        ends();
        itStays();
        facts();
        knowledge();
        CHECK.finish();
    }

    private static void refused(String text, int kind, int place) {
        TruthCord x = new TruthCord();
        CHECK.fault("4 5 valley '" + text + "'", kind, place, Check.valley(x, text), x);
    }

    private static void taken(String text, int lines) {
        TruthCord x = new TruthCord();
        CHECK.due("4 valley '" + text + "'", lines, Check.valley(x, text));
        CHECK.due("5 its fault", 0, x.fault());
        CHECK.due("4 the tape then", 0, x.count(9));
    }

    private static void lines() {
        taken("", 0);
        taken(" \n ", 0);
        taken("who a;", 1);
        taken("\n who\na\n;\n\n", 1);
        taken("who abcdef;fact abcdeg 99 99 abcdef;", 2);
        taken(PEOPLE_AND_FACTS + "since f g h;asks a f 0;asks b f 99;asks a g 5;knows a f;knows b f;", 11);
        taken("moon 99;old 10;secret 30;silent 20;found 40;", 5);
        taken("moon 1;old 0;secret 10;silent 0;found 10;", 5);
        taken("moon 001;", 1);
        taken("who a;fact f 1 0 a;", 2);
    }

    private static void tokens() {
        refused(";", 1, 0);
        refused("a", 1, 0);
        refused("5;", 1, 0);
        refused("who ;", 1, 4);
        refused("who 5;", 1, 4);
        refused("who a", 1, 5);
        refused("who a  ", 1, 7);
        refused("who", 1, 3);
        refused("who a b;", 1, 6);
        refused("who abcdefg;", 1, 4);
        refused("who a1;", 1, 4);
        refused("who 1a;", 1, 4);
        refused("whoa;", 1, 0);
        refused("Who a;", 1, 0);
        refused("who aB;", 1, 5);
        refused("who A;", 1, 4);
        refused("who a.", 1, 5);
        refused("who a;.", 1, 6);
        refused("who a;(", 1, 6);
        refused("who a\t;", 1, 5);
        refused("who \u00e9;", 1, 4);
        refused("who a;\u0000", 1, 6);
        refused("moon 1000;", 1, 5);
        refused("moon a;", 1, 5);
        refused("moon ;", 1, 5);
        refused("who a;fact f a 5 a;", 1, 13);
        refused("who a;fact f 5 5;", 1, 16);
        refused("who a;fact f 5 5 6;", 1, 17);
        refused("day 5;", 1, 0);
        refused("lies;", 1, 0);
        for (String word : WORDS.split(" ")) {
            refused("who " + word + ";", 1, 4);
            refused("who a;fact " + word + " 5 5 a;", 1, 11);
            refused("knows " + word + " f;", 1, 6);
        }
        taken("who whos;", 1);
    }

    private static void numbers() {
        refused("who a;fact f 0 5 a;", 2, 13);
        refused("who a;fact f 100 5 a;", 2, 13);
        refused("who a;fact f 99 100 a;", 2, 16);
        refused(PEOPLE_AND_FACTS + "asks a f 100;", 2, PEOPLE_AND_FACTS.length() + 9);
        String[] least = {"moon 0;", "secret 9;", "found 9;"};
        String[] most = {"moon 100;", "old 11;", "secret 31;", "silent 21;", "found 41;"};
        for (String text : least) {
            refused(text, 2, text.indexOf(' ') + 1);
        }
        for (String text : most) {
            refused(text, 2, text.indexOf(' ') + 1);
        }
    }

    private static void names() {
        int n = PEOPLE_AND_FACTS.length();
        refused("who a;who a;", 3, 10);
        refused("who a;fact a 5 5 a;", 3, 11);
        refused(PEOPLE_AND_FACTS + "who f;", 3, n + 4);
        refused(PEOPLE_AND_FACTS + "fact g 5 5 a;", 3, n + 5);
        refused("fact f 5 5 f;", 3, 11);
        refused("who a;fact f 5 5 b;", 3, 17);
        refused(PEOPLE_AND_FACTS + "knows c f;", 3, n + 6);
        refused(PEOPLE_AND_FACTS + "knows f f;", 3, n + 6);
        refused(PEOPLE_AND_FACTS + "knows a k;", 3, n + 8);
        refused(PEOPLE_AND_FACTS + "knows a b;", 3, n + 8);
        refused(PEOPLE_AND_FACTS + "knows a f;knows b f;knows a f;", 3, n + 28);
        refused(PEOPLE_AND_FACTS + "since f f g;", 3, n + 8);
        refused(PEOPLE_AND_FACTS + "since f g f;", 3, n + 10);
        refused(PEOPLE_AND_FACTS + "since f g g;", 3, n + 10);
        refused(PEOPLE_AND_FACTS + "since f a g;", 3, n + 8);
        refused(PEOPLE_AND_FACTS + "since f g;", 1, n + 9);
        refused(PEOPLE_AND_FACTS + "asks f f 5;", 3, n + 5);
        refused(PEOPLE_AND_FACTS + "asks a a 5;", 3, n + 7);
        refused(PEOPLE_AND_FACTS + "asks a f 5;asks a f 5;", 3, n + 18);
        refused(PEOPLE_AND_FACTS + "asks a f 0;asks a f 100;", 3, n + 18);
        for (String word : new String[] {"moon", "old", "secret", "silent", "found"}) {
            refused(word + " 10;who a;" + word + " 999;", 3, word.length() + 10);
        }
        // the one that comes first along the text counts
        refused("who a;who a;fact f 0 0 a;", 3, 10);
        refused("who a;fact a 0 0 a", 3, 11);
    }

    private static void many() {
        StringBuilder people = new StringBuilder();
        for (int i = 0; i < 8; i++) {
            people.append("who ").append((char) ('a' + i)).append(';');
        }
        taken(people.toString(), 8);
        refused(people + "who", 4, people.length());
        refused(people + " who a;", 4, people.length() + 1);
        StringBuilder facts = new StringBuilder("who z;");
        for (int i = 0; i < 12; i++) {
            facts.append("fact ").append((char) ('a' + i)).append(" 1 1 z;");
        }
        taken(facts.toString(), 13);
        refused(facts + "fact", 4, facts.length());
        String since = facts + Check.times("since a b c;", 8);
        taken(since, 21);
        refused(since + "since a a a;", 4, since.length());
        refused(since + "nothing", 1, since.length());
    }

    private static void ends() {
        String full = "who a;" + Check.times(" ", 894);
        taken(full, 1);
        refused(full + " ", 1, 900);
        refused(full + "who b;", 1, 900);
        refused("who a" + Check.times(" ", 900), 1, 900);
        refused(Check.times(" ", 940), 1, 900);
        // what begins ahead of 900 is read whole, and may be a FAULT by itself
        refused(Check.times(" ", 894) + "moon 100;", 2, 899);
        refused(Check.times(" ", 894) + "moon 10;", 1, 900);
        refused(Check.times(" ", 895) + "moon 100;", 1, 900);
        refused(Check.times(" ", 894) + "moon 1000;", 1, 899);
        refused("moon 9;" + Check.times(" ", 891) + "moon 5;", 3, 898);
        refused(Check.times(" ", 898) + "whos a;", 1, 898);
        refused("who a;who a;" + Check.times(" ", 900), 3, 10);
    }

    private static void itStays() {
        TruthCord x = Check.with(PEOPLE_AND_FACTS + "knows a f;", "a lies b f;");
        CHECK.due("4 a sentence", 1, Check.sentence(x, "late"));
        CHECK.fault("4 a fault", 1, 0, Check.valley(x, "x"), x);
        CHECK.due("4 PEOPLE stay", 2, x.count(0));
        CHECK.due("4 the BOOK stays", 1, x.debts());
        CHECK.due("4 the SENTENCE stays", 0, x.said());
        CHECK.due("4 half a valley", -1 - 10, Check.valley(x, "who z;moon;"));
        CHECK.due("4 moon stays", 28, x.count(4));
        CHECK.due("5 fault() again", 1, x.fault());
        CHECK.due("4 a valley", 1, Check.valley(x, "who z;"));
        CHECK.due("5 no fault", 0, x.fault());
        CHECK.due("4 no BOOK", 0, x.count(3));
        CHECK.due("4 no DEBTS", 0, x.debts());
        CHECK.due("4 no DAY", 0, x.autumn(6));
        CHECK.due("4 no SENTENCE", TruthCord.NONE, x.said());
        CHECK.due("4 FACTS are gone", 0, x.count(1));
        CHECK.due("5 a fault of a book", -1, Check.book(x, "q tells z f;"));
        CHECK.due("5 its kind", 3, x.fault());
        CHECK.due("5 a fault of a sentence", -1, Check.sentence(x, ""));
        CHECK.due("5 its kind", 1, x.fault());
        x.drawn(0, 0);
        x.image(0);
        x.restore(0);
        x.order();
        CHECK.due("5 other calls leave it", 1, x.fault());
        Check.book(x, "");
        CHECK.due("5 none", 0, x.fault());
    }

    private static void facts() {
        TruthCord x = Check.with("who a;who b;fact f 10 5 b;fact g 99 0 a;", "");
        int[][] want = {{10, 5, 1}, {99, 0, 0}};
        for (int f = 0; f < 2; f++) {
            for (int what = 0; what < 3; what++) {
                CHECK.due("6 fact(" + f + ", " + what + ")", want[f][what], x.fact(f, what));
            }
        }
        int[][] none = {{2, 0}, {-1, 0}, {0, 3}, {0, -1}, {12, 0}, {Integer.MAX_VALUE, 0}, {Integer.MIN_VALUE, 1}};
        for (int[] pair : none) {
            CHECK.missing("6 fact(" + pair[0] + ", " + pair[1] + ")", () -> x.fact(pair[0], pair[1]));
        }
    }

    private static void knowledge() {
        String text = "who a;who b;fact f 10 5 b;fact g 99 0 a;fact h 3 3 a;fact i 4 4 b;fact j 5 5 b;"
            + "since g h i;since f i h;since i f j;since g f h;knows a f;knows a g;knows b i;";
        TruthCord x = Check.with(text, "");
        CHECK.due("7 what follows, as often as something does", 31, x.knows(0, 0));
        CHECK.due("7 knows(1, 0)", 8, x.knows(1, 0));
        CHECK.due("7 at the end of no BOOK", 31, x.knows(0, 1));
        Check.book(x, "a tells b f;");
        CHECK.due("7 at first", 8, x.knows(1, 0));
        CHECK.due("7 at the end", 1 + 4 + 8 + 16, x.knows(1, 1));
        int[][] none = {{2, 0}, {-1, 0}, {0, 2}, {0, -1}, {8, 1}, {Integer.MAX_VALUE, 0}, {Integer.MIN_VALUE, 1}};
        for (int[] pair : none) {
            CHECK.due("7 knows(" + pair[0] + ", " + pair[1] + ")", TruthCord.NONE, x.knows(pair[0], pair[1]));
        }
    }
}
