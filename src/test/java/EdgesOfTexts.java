/** Boundary cases of the three texts, their TOKENS and their FAULTS: promises 4, 5, 8, 33. */
final class EdgesOfTexts {
    private static final String VALLEY = "who a;who b;who c;fact f 10 5 a;fact g 20 7 b;fact h 8 0 b;";
    private static final int N = VALLEY.length();
    private static final String WORDS = "who fact knows since asks moon old secret silent found day lies hides tells sells with "
        + "or and not has late owes debts paid hurt coins";

    private final Edges edges;

    private EdgesOfTexts(Edges edges) {
        this.edges = edges;
    }

    static void run(Edges edges) {
        EdgesOfTexts all = new EdgesOfTexts(edges);
        all.blanks();
        all.tokens();
        all.runs();
        all.valleyLines();
        all.factNumbers();
        all.since();
        all.asks();
        all.settings();
        all.names();
        all.howMany();
        all.whichFault();
        all.faultOne();
        all.theEnd();
        all.faultTwo();
        all.faultThree();
        all.faultFour();
        all.bookLines();
        all.days();
        all.with();
        all.bookFaults();
        all.sentences();
        all.within();
        all.sentenceFaults();
    }

    private static String blanks(int many) {
        return Check.times(" ", many);
    }

    private void blanks() {
        edges.about("TOKENS of all texts, with blanks (32, 10) between them or not", 4, 8, 33);
        edges.valleyTaken("\n \n who\na \n;\n who b;\n\n", 2);
        edges.valleyTaken("who a;who b;", 2);
        edges.bookTaken(VALLEY, "\na\n\n tells b\nf ;day 1\n; ", 2);
        edges.sentenceTaken(VALLEY, "not(\nlate)and owes\n>5 or(has f)", 6);
        for (int blank : new int[] {0, 9, 11, 13, 31, 33, 160}) {
            edges.valleyRefused("who a" + (char) blank + ";", 1, 5);
            edges.bookRefused(VALLEY, "day 5" + (char) blank + ";", 1, 5);
            edges.sentenceRefused(VALLEY, "late" + (char) blank, 1, 4);
        }
    }

    private void tokens() {
        edges.about("WORDS: small letters, 1 to 6", 4, 8, 33);
        edges.valleyTaken("who a;who z;who abcdef;who zzzzzz;", 4);
        edges.valleyRefused("who abcdefg;", 1, 4);
        edges.valleyRefused("who " + Check.times("a", 40) + ";", 1, 4);
        edges.valleyRefused("who `;", 1, 4);
        edges.valleyRefused("who {;", 1, 4);
        edges.valleyRefused("who A;", 1, 4);
        edges.valleyRefused("who Z;", 1, 4);
        edges.valleyRefused("who aZ;", 1, 5);
        edges.bookRefused(VALLEY, "a tellsss b f;", 1, 2);
        edges.bookRefused(VALLEY, "aaaaaaa tells b f;", 1, 0);
        edges.sentenceRefused(VALLEY, "has fffffff", 1, 4);

        edges.about("NUMBERS: 1 to 3 digits", 4, 8, 33);
        edges.valleyTaken("moon 9;old 09;secret 010;", 3);
        edges.valleyRefused("moon 0009;", 1, 5);
        edges.valleyRefused("moon 1000;", 1, 5);
        edges.valleyRefused("moon 99999999999999999999;", 1, 5);
        edges.valleyRefused("moon /;", 1, 5);
        edges.valleyRefused("moon :;", 1, 5);
        edges.bookTaken(VALLEY, "day 999;", 1);
        edges.bookRefused(VALLEY, "day 0001;", 1, 4);
        edges.sentenceTaken(VALLEY, "owes < 0 or owes > 999 or owes = 007", 3);
        edges.sentenceRefused(VALLEY, "owes < 1000", 1, 7);
        edges.sentenceRefused(VALLEY, "owes < 0000", 1, 7);

        edges.about("; < = > ( ) .", 4, 8, 33);
        edges.sentenceTaken(VALLEY, "(owes<1)and(owes=1)or(owes>1)", 6);
        for (int sign : new int[] {'\'', '*', '.', ':', '?', '-', '+', 127, 255}) {
            edges.sentenceRefused(VALLEY, "late and " + (char) sign, 1, 9);
            edges.sentenceRefused(VALLEY, "owes " + (char) sign + " 5", 1, 5);
            edges.valleyRefused("who a" + (char) sign, 1, 5);
        }
    }

    private void runs() {
        edges.about("A WORD, NUMBER goes on as long as small letters and digits do; what is not as told is no TOKEN.", 4, 8, 33);
        edges.valleyRefused("who a1;", 1, 4);
        edges.valleyRefused("who 1a;", 1, 4);
        edges.valleyRefused("who1 a;", 1, 0);
        edges.valleyRefused("moon5;", 1, 0);
        edges.valleyRefused("moon 5a;", 1, 5);
        edges.valleyRefused("whoa;", 1, 0);
        edges.bookRefused(VALLEY, "day5;", 1, 0);
        edges.bookRefused(VALLEY, "day 5a;", 1, 4);
        edges.sentenceRefused(VALLEY, "owes < 5and late", 1, 7);
        edges.sentenceRefused(VALLEY, "notlate", 1, 0);
        edges.sentenceRefused(VALLEY, "lateor late", 1, 0);
        edges.valleyTaken("who whoa;who days;", 2);
    }

    private void valleyLines() {
        edges.about("A VALLEY is a text of at most 900 bytes: { LINE ; }.", 4);
        edges.valleyTaken("", 0);
        edges.valleyTaken("\n", 0);
        edges.valleyTaken(blanks(900), 0);
        edges.valleyTaken("who a;" + blanks(894), 1);
        edges.valleyTaken(blanks(894) + "who a;", 1);
        edges.valleyRefused("who a;" + blanks(895), 1, 900);
        edges.valleyRefused(blanks(895) + "who a;", 1, 900);
        edges.valleyRefused(";", 1, 0);
        edges.valleyRefused("who a;;", 1, 6);
        edges.valleyRefused("who a", 1, 5);
        edges.valleyRefused("who a who b;", 1, 6);
    }

    private void factNumbers() {
        edges.about("'fact' NAME LENGTH HURT WHO (1 to 99 KNOTS; 0 to 99; whom it is about)", 4, 6);
        edges.valleyTaken("who a;fact f 1 0 a;fact g 99 99 a;", 3);
        edges.valleyRefused("who a;fact f 0 0 a;", 2, 13);
        edges.valleyRefused("who a;fact f 100 0 a;", 2, 13);
        edges.valleyRefused("who a;fact f 999 0 a;", 2, 13);
        edges.valleyRefused("who a;fact f 1 100 a;", 2, 15);
        edges.valleyRefused("who a;fact f 1 0 b;", 3, 17);
        edges.valleyRefused("who a;fact f 1 0;", 1, 16);
        edges.valleyRefused("who a;fact f 1 a;", 1, 15);
        TruthCord x = Check.with("who a;who b;fact f 1 99 b;fact g 99 0 a;", "");
        edges.all("the first", new int[] {1, 99, 1}, x.fact(0, 0), x.fact(0, 1), x.fact(0, 2));
        edges.all("the second", new int[] {99, 0, 0}, x.fact(1, 0), x.fact(1, 1), x.fact(1, 2));
    }

    private void since() {
        edges.about("'since' FACT FACT FACT (three unlike ones: who knows the first two knows the third)", 4, 7);
        edges.valleyRefused(VALLEY + "since f f g;", 3, N + 8);
        edges.valleyRefused(VALLEY + "since f g f;", 3, N + 10);
        edges.valleyRefused(VALLEY + "since f g g;", 3, N + 10);
        edges.valleyRefused(VALLEY + "since f g;", 1, N + 9);
        edges.valleyRefused(VALLEY + "since f g h f;", 1, N + 12);
        TruthCord x = Check.with(VALLEY + "since f g h;knows a f;knows a g;knows b f;knows b h;knows c g;knows c h;", "");
        edges.all("both of them are needed", new int[] {7, 5, 6}, x.knows(0, 0), x.knows(1, 0), x.knows(2, 0));
    }

    private void asks() {
        edges.about("'asks' WHO FACT N (0 to 99 COINS for which he would tell it)", 4, 20);
        edges.valleyTaken(VALLEY + "asks a f 0;asks b f 99;", 8);
        edges.valleyRefused(VALLEY + "asks a f 100;", 2, N + 9);
        edges.valleyRefused(VALLEY + "asks a f;", 1, N + 8);
        TruthCord x = Check.with("who a;who b;who c;fact f 1 0 a;fact g 20 0 a;knows a f;knows b g;asks b g 0;old 1;", "a lies c f;a lies c f;");
        edges.due("told for 0 COINS", 0, x.buys(0, 0));
        edges.due("told for 0 COINS, which", 2, x.buys(0, 1));
        x = Check.with("who a;who b;who c;fact f 1 0 a;fact g 20 0 a;knows a f;knows b g;asks b g 99;old 1;", "a lies c f;a lies c f;");
        edges.due("told for 99 COINS", 99, x.buys(0, 0));
    }

    private void setting(String sentence, String word, int what, int least, int most, int untold) {
        edges.about(sentence, 4, 37);
        for (int n : new int[] {least, most}) {
            TruthCord x = new TruthCord();
            edges.due(word + " " + n, 1, Check.valley(x, word + " " + n + ";"));
            edges.due(word + " " + n + ", told", n, x.count(what));
        }
        edges.valleyRefused(word + " " + (most + 1) + ";", 2, word.length() + 1);
        edges.valleyRefused(word + " 999;", 2, word.length() + 1);
        if (least > 0) {
            edges.valleyRefused(word + " " + (least - 1) + ";", 2, word.length() + 1);
            edges.valleyRefused(word + " 0;", 2, word.length() + 1);
        }
        edges.valleyRefused(word + ";", 1, word.length());
        TruthCord x = new TruthCord();
        edges.due("of a new object", untold, x.count(what));
        Check.valley(x, word + " " + most + ";");
        Check.valley(x, "who a;");
        edges.due("without", untold, x.count(what));
    }

    private void settings() {
        setting("'moon' N (1 to 99 DAYS; 28 without)", "moon", 4, 1, 99, 28);
        setting("'old' N (0 to 10 tenths; 5)", "old", 5, 0, 10, 5);
        setting("'secret' N (10 to 30 tenths; 15)", "secret", 6, 10, 30, 15);
        setting("'silent' N (0 to 20 tenths; 5)", "silent", 7, 0, 20, 5);
        setting("'found' N (10 to 40 tenths; 20)", "found", 8, 10, 40, 20);
        edges.about("the last five once.", 4);
        edges.valleyTaken("moon 10;old 10;secret 10;silent 10;found 10;", 5);
        edges.valleyTaken("found 10;silent 10;secret 10;old 10;moon 10;", 5);
        for (String word : new String[] {"moon", "old", "secret", "silent", "found"}) {
            edges.valleyRefused(word + " 10;" + word + " 10;", 3, word.length() + 4);
        }
        TruthCord x = new TruthCord();
        edges.due("once in a VALLEY", 1, Check.valley(x, "moon 10;"));
        edges.due("and once in the next", 1, Check.valley(x, "moon 10;"));
        edges.fault("and in one that has a FAULT", 1, 13, Check.valley(x, "moon 9;old 9;?"), x);
        edges.due("and once in the next", 2, Check.valley(x, "moon 10;old 10;"));
    }

    private void names() {
        edges.about("NAME: a WORD, none of those told here, in a BOOK or in a SENTENCE", 4, 8, 33);
        for (String word : WORDS.split(" ")) {
            edges.valleyRefused("who " + word + ";", 1, 4);
            edges.valleyRefused("who a;fact " + word + " 5 5 a;", 1, 11);
            edges.valleyTaken("who " + (word + "x").substring(word.length() > 5 ? 1 : 0) + ";", 1);
        }
        edges.valleyTaken("who book;who line;who name;who length;who if;who all;who one;who cond;", 8);

        edges.about("told once.", 4);
        edges.valleyRefused("who a;who a;", 3, 10);
        edges.valleyRefused("who a;fact a 1 0 a;", 3, 11);
        edges.valleyRefused("who a;fact f 1 0 a;fact f 1 0 a;", 3, 24);
        edges.valleyRefused("who a;fact f 1 0 a;who f;", 3, 23);
        // NAMES that are alike but for one sign, their length or their order are unlike ones
        edges.valleyTaken("who a;who aa;who aaa;who aaaaaa;who ab;who ba;who baaaaa;who q;", 8);
        edges.valleyTaken("who p;who aaaaab;who q;who zaaaaa;who zzzzzz;who zzzzz;who oz;who pj;", 8);
        edges.valleyTaken("who baaaaa;who faaaaa;who jaaaaa;who naaaaa;who raaaaa;who vaaaaa;who zaaaaa;who abbbbb;", 8);
        edges.bookRefused("who aaaaaa;who b;fact f 1 0 b;", "baaaaa tells b f;", 3, 0);
        edges.bookRefused("who a;who b;fact f 1 0 b;", "aa tells b f;", 3, 0);
        edges.bookRefused("who ap;who b;fact f 1 0 b;", "q tells b f;", 3, 0);
        TruthCord x = new TruthCord();
        edges.due("once in a VALLEY", 2, Check.valley(x, "who a;fact f 1 0 a;"));
        edges.due("and once in the next, of another sort", 2, Check.valley(x, "who f;fact a 1 0 f;"));
    }

    private static String people(int many) {
        StringBuilder all = new StringBuilder();
        for (int i = 0; i < many; i++) {
            all.append("who ").append((char) ('a' + i)).append(';');
        }
        return all.toString();
    }

    private static String facts(int many) {
        StringBuilder all = new StringBuilder();
        for (int i = 0; i < many; i++) {
            all.append("fact ").append((char) ('m' + i)).append(" 1 0 a;");
        }
        return all.toString();
    }

    private void howMany() {
        edges.about("8 PEOPLE, 12 FACTS, 8 'since' at most, numbered from 0 each.", 4, 37);
        edges.valleyTaken(people(8), 8);
        edges.valleyTaken(people(1) + facts(12), 13);
        edges.valleyTaken(people(1) + facts(3) + Check.times("since m n o;", 8), 12);
        TruthCord x = new TruthCord();
        edges.due("all of them", 31, Check.valley(x, people(8) + facts(12) + Check.times("since m n x;", 7) + "since v w x;knows a v;knows h w;knows h v;"));
        edges.all("how many", new int[] {8, 12, 8}, x.count(0), x.count(1), x.count(2));
        edges.due("the first WHO is 0, the tenth FACT 9", 1 << 9, x.knows(0, 0));
        edges.due("the last WHO is 7, the last FACT 11; the eighth 'since'", 1 << 9 | 1 << 10 | 1 << 11, x.knows(7, 0));
        edges.due("no ninth", -1, x.knows(8, 0));
        edges.due("the last WHO", 1, Check.book(x, "h tells a x;"));
        edges.all("its numbers", new int[] {3, 7, 0, 11}, x.line(0, 0), x.line(0, 1), x.line(0, 2), x.line(0, 3));
        full();
    }

    /** 8 PEOPLE and 12 FACTS, of which the last counts wherever the first does. */
    private void full() {
        String valley = people(8) + facts(11) + "fact x 4 9 h;knows h x;knows g x;knows a w;asks g x 3;asks a w 5;old 10;secret 30;";
        TruthCord x = Check.with(valley, "h lies a x with g;h lies a x;a hides b w;h lies b x;");
        edges.all("what g, h and a OWE", new int[] {2, 6 + 4, 1}, x.came(6, 0), x.came(7, 0), x.came(0, 0));
        edges.all("the WORTH of the last FACT", new int[] {4, 4, -1}, x.worth(6, 11), x.worth(7, 11), x.worth(0, 11));
        edges.all("the FEAST", new int[] {2, 9, 11, -1, -1, 10, -1, -1}, x.feast(0), x.feast(1), x.feastAt(0), x.feastAt(1), x.feastAt(2), x.feastAt(3), x.feastAt(4), x.feastAt(5));
        edges.all("what h NEEDS and BUYS", new int[] {-1, -1}, x.needs(7, 0), x.buys(7, 0));
        edges.all("the last WHO can be told", new int[] {1 << 10, 1}, x.ripple(0, 7, 10, 0), x.ripple(0, 1, 10, 1));
        edges.all("HURT in all", new int[] {0, 8}, x.autumn(4), Check.book(x, "g tells a x;a tells b x;b tells c x;c tells d x;h lies e x;h lies f x;day 9;h lies d x;"));
        edges.all("the last WHO is HURT", new int[] {36, 36, 1}, x.autumn(4), x.came(7, 3), x.autumn(5));
        edges.all("TERMS and SOURCE of the last ones", new int[] {20, 3, 0}, x.terms(7), x.source(3, 11), x.source(0, 11));
        Check.book(x, "a hides c w;a hides c w;");
        edges.all("a BUYS the last FACT of g", new int[] {3, 1 << 11}, x.buys(0, 0), x.buys(0, 1));
        edges.all("a NEEDS one", new int[] {1, 1}, x.needs(0, 0), x.needs(0, 1));
        Check.tape(x, 7, 0, 11, 0, 7, 10, 6, 5, 11, 0, 6, 10, 7, 4, 11);
        edges.due("an ORDER of the last ones", 0, x.order());
        Check.sentence(x, "has x");
        edges.due("who has the last FACT", 192, x.said());
    }

    private void whichFault() {
        edges.about("FAULTS, the first along the text, of one TOKEN the least", 4, 5, 8, 33);
        edges.valleyRefused("who a;fact f 0 100 z", 2, 13);
        edges.valleyRefused("who a;who a;?", 3, 10);
        edges.valleyRefused("?who a;who a;", 1, 0);
        edges.valleyRefused(people(8) + "who a;", 4, 48);
        edges.valleyRefused(people(8) + "?who i;", 1, 48);
        edges.valleyRefused("moon 5;moon 100;", 3, 7);
        // of one TOKEN: no TOKEN ahead of what is not as told, that ahead of a NAME not told, that ahead of too many
        edges.valleyRefused("moon 1000;", 1, 5);
        edges.valleyRefused("knows aaaaaaa f;", 1, 6);
        edges.valleyRefused("knows who f;", 1, 6);
        String sixty = Check.times("a tells b f;", 60);
        edges.bookRefused(VALLEY, sixty + "z tells a f;", 3, 720);
        edges.bookRefused(VALLEY, sixty + "f tells a f;", 3, 720);
        edges.bookRefused(VALLEY, sixty + "tells a f;", 1, 720);
        edges.bookRefused(VALLEY, sixty + "5;", 1, 720);
        edges.bookRefused(VALLEY, "a tells a z;", 3, 8);
        edges.sentenceRefused(VALLEY, Check.times("not ", 8) + "f", 1, 32);
        edges.sentenceRefused(VALLEY, Check.times("not ", 8) + "has z", 4, 32);
        edges.sentenceRefused(VALLEY, "has z and", 3, 4);
    }

    private void faultOne() {
        edges.about("1 no TOKEN, or one that can't come (at it", 4, 8, 33);
        edges.valleyRefused("?", 1, 0);
        edges.valleyRefused("who a;  ?", 1, 8);
        edges.valleyRefused("a;", 1, 0);
        edges.valleyRefused("day 1;", 1, 0);
        edges.valleyRefused("late;", 1, 0);
        edges.valleyRefused("5;", 1, 0);
        edges.valleyRefused("(", 1, 0);
        edges.valleyRefused("who 5;", 1, 4);
        edges.valleyRefused("who ;", 1, 4);
        edges.valleyRefused("who (;", 1, 4);
        edges.valleyRefused("who a 5;", 1, 6);
        edges.valleyRefused("moon a;", 1, 5);
        edges.valleyRefused("moon moon;", 1, 5);
        edges.valleyRefused("who a;fact f a 5 a;", 1, 13);
        edges.valleyRefused("who a;fact f 5 a a;", 1, 15);
        edges.valleyRefused("who a;fact f 5 5 5;", 1, 17);
        edges.valleyRefused(VALLEY + "knows a 5;", 1, N + 8);
        edges.valleyRefused(VALLEY + "knows a;", 1, N + 7);
        edges.valleyRefused(VALLEY + "knows a f g;", 1, N + 10);
        edges.valleyRefused(VALLEY + "since f 5 g;", 1, N + 8);
        edges.valleyRefused(VALLEY + "asks 5 f 5;", 1, N + 5);
        edges.valleyRefused(VALLEY + "asks a 5 5;", 1, N + 7);
        edges.valleyRefused(VALLEY + "asks a f f;", 1, N + 9);
        edges.valleyRefused(VALLEY + "asks a f 5 5;", 1, N + 11);
    }

    private void theEnd() {
        edges.about("the end: how many bytes there are", 4, 8, 33);
        String[] cut = {"who", "who a", "who a ", "who a;fact", "who a;fact f", "who a;fact f 5", "who a;fact f 5 5", "who a;fact f 5 5 a", "moon", "moon 5",
            VALLEY + "knows", VALLEY + "knows a", VALLEY + "knows a f", VALLEY + "since f g", VALLEY + "asks a f", VALLEY + "asks a f 5\n\n"};
        for (String text : cut) {
            edges.valleyRefused(text, 1, text.length());
        }
        edges.valleyRefused("who" + blanks(897), 1, 900);
        for (String text : new String[] {"day", "day 5", "a", "a lies", "a lies b", "a lies b f", "a lies b f with", "a lies b f with c ", "a sells b f", "a sells b f 5"}) {
            edges.bookRefused(VALLEY, text, 1, text.length());
        }
        for (String text : new String[] {"", " ", "not", "(", "(late", "late or", "late and ", "has", "owes", "owes <", blanks(200)}) {
            edges.sentenceRefused(VALLEY, text, 1, text.length());
        }

        edges.about("900, if there are more and no FAULT is ahead", 4, 8);
        edges.valleyRefused(blanks(901), 1, 900);
        edges.valleyRefused(blanks(940), 1, 900);
        edges.valleyRefused("who" + blanks(898), 1, 900);
        edges.valleyRefused("who a;" + blanks(894) + "?", 1, 900);
        edges.valleyRefused("who a;" + blanks(894) + "who a;", 1, 900);
        edges.valleyRefused("who a;" + blanks(893) + "?;", 1, 899);
        edges.valleyRefused("who a;who a;" + blanks(928), 3, 10);
        edges.bookRefused(VALLEY, "day 1;" + blanks(895), 1, 900);
        edges.bookRefused(VALLEY, "day 1;" + blanks(894) + "z", 1, 900);
        edges.bookRefused(VALLEY, "day 1;" + blanks(893) + "z ", 3, 899);

        edges.about("TOKENS that begin ahead of it are read whole", 4, 8, 33);
        // a NAME: 'ab' is told already, 'abcd' is not, and the other way round
        edges.valleyRefused("who ab;" + blanks(887) + "who abcd;", 1, 900);
        edges.valleyRefused("who abcd;" + blanks(885) + "who abcd;", 3, 898);
        edges.valleyRefused(blanks(895) + "who abcdefg;", 1, 899);
        edges.valleyRefused(blanks(895) + "who abcdef;", 1, 900);
        // a NUMBER: 1 is one, 10, too, 100 is not as told, 1000 is no TOKEN
        edges.valleyRefused(blanks(894) + "moon 1", 1, 900);
        edges.valleyRefused(blanks(894) + "moon 10", 1, 900);
        edges.valleyRefused(blanks(894) + "moon 100", 2, 899);
        edges.valleyRefused(blanks(894) + "moon 1000", 1, 899);
        edges.valleyRefused(blanks(895) + "moon 1000", 1, 900);
        // a LINE's first WORD
        edges.valleyRefused("moon 1;" + blanks(892) + "moon 1;", 3, 899);
        edges.valleyRefused("moon 1;" + blanks(893) + "moon 1;", 1, 900);
        edges.valleyRefused(people(8) + blanks(851) + "who i;", 4, 899);
        edges.valleyRefused(people(8) + blanks(852) + "who i;", 1, 900);
        edges.valleyRefused(blanks(899) + "whos", 1, 899);
        edges.bookRefused(VALLEY, "day 5;" + blanks(889) + "day 10;", 1, 900);
        edges.bookRefused(VALLEY, "day 50;" + blanks(888) + "day 10;", 2, 899);
        edges.bookRefused(VALLEY, blanks(899) + "az tells", 3, 899);
        edges.sentenceRefused(VALLEY, blanks(195) + "has fz", 3, 199);
        edges.sentenceRefused(VALLEY, blanks(196) + "has fz", 1, 200);
        edges.sentenceRefused(VALLEY, blanks(199) + "late", 1, 200);
        edges.sentenceRefused(VALLEY, blanks(199) + "lates", 1, 199);
        edges.sentenceRefused(VALLEY, blanks(192) + "owes > 1000", 1, 199);
        edges.sentenceRefused(VALLEY, blanks(192) + "owes > 100", 1, 200);
    }

    private void faultTwo() {
        edges.about("2 a NUMBER that is not as told (at it)", 4, 8);
        edges.valleyRefused("  moon   0 ;", 2, 9);
        edges.valleyRefused("moon 000;", 2, 5);
        edges.valleyRefused("who a;fact f 5 100;", 2, 15);
        edges.valleyRefused(VALLEY + "asks a f 999", 2, N + 9);
        edges.bookRefused(VALLEY, "a sells b f 100", 2, 12);
        edges.bookRefused(VALLEY, "day 7;\nday 7", 2, 11);
    }

    private void faultThree() {
        edges.about("3 a NAME told twice, not told, or of another sort", 4);
        edges.valleyRefused("who a;who b;who a", 3, 16);
        edges.valleyRefused("who a;fact f 1 0 a;fact f", 3, 24);
        edges.valleyRefused("fact f 1 0 a;who a;", 3, 11);
        edges.valleyRefused("fact f 1 0 f;", 3, 11);
        edges.valleyRefused(VALLEY + "fact k 1 0 f;", 3, N + 11);
        edges.valleyRefused(VALLEY + "knows k f;", 3, N + 6);
        edges.valleyRefused(VALLEY + "knows f f;", 3, N + 6);
        edges.valleyRefused(VALLEY + "knows a k;", 3, N + 8);
        edges.valleyRefused(VALLEY + "knows a b;", 3, N + 8);
        edges.valleyRefused(VALLEY + "since k f g;", 3, N + 6);
        edges.valleyRefused(VALLEY + "since f a g;", 3, N + 8);
        edges.valleyRefused(VALLEY + "since f g k;", 3, N + 10);
        edges.valleyRefused(VALLEY + "asks k f 5;", 3, N + 5);
        edges.valleyRefused(VALLEY + "asks f f 5;", 3, N + 5);
        edges.valleyRefused(VALLEY + "asks a k 5;", 3, N + 7);
        edges.valleyRefused(VALLEY + "asks a a 5;", 3, N + 7);

        edges.about("'knows' WHO FACT", 4, 7);
        TruthCord y = Check.with(VALLEY + "knows a h;knows c f;", "");
        edges.all("as told", new int[] {4, 0, 1}, y.knows(0, 0), y.knows(1, 0), y.knows(2, 0));
        edges.valleyRefused(VALLEY + "knows f a;", 3, N + 6);

        edges.about("a FACT that somebody was told to know already", 4);
        edges.valleyRefused(VALLEY + "knows a f;knows a f;", 3, N + 18);
        edges.valleyTaken(VALLEY + "knows a f;knows b f;knows a g;", 9);
        edges.valleyTaken(VALLEY + "since f g h;knows a f;knows a g;knows a h;", 10);
        TruthCord x = new TruthCord();
        Check.valley(x, VALLEY + "knows a f;");
        edges.due("in the VALLEY before is not already", 7, Check.valley(x, VALLEY + "knows a f;"));

        edges.about("a FACT of 'since' that stands ahead of it there", 4);
        edges.valleyRefused(VALLEY + "since g g h;", 3, N + 8);
        edges.valleyRefused(VALLEY + "since g h g;", 3, N + 10);
        edges.valleyRefused(VALLEY + "since g h h;", 3, N + 10);
        edges.valleyRefused(VALLEY + "since g g g;", 3, N + 8);
        edges.valleyTaken(VALLEY + "since f g h;since f g h;since h g f;", 9);

        edges.about("a FACT for which that one was told to ask already (at it)", 4);
        edges.valleyRefused(VALLEY + "asks a f 0;asks a f 0;", 3, N + 18);
        edges.valleyRefused(VALLEY + "asks a f 99;asks b f 5;asks a f 100;", 3, N + 30);
        edges.valleyTaken(VALLEY + "asks a f 5;asks b f 5;asks a g 5;", 9);
        x = new TruthCord();
        Check.valley(x, VALLEY + "asks a f 5;");
        edges.due("in the VALLEY before is not already", 7, Check.valley(x, VALLEY + "asks a f 6;"));

        edges.about("moon .. found told twice (at its WORD)", 4);
        for (String word : new String[] {"moon", "old", "secret", "silent", "found"}) {
            edges.valleyRefused(word + " 10;who a; " + word, 3, word.length() + 11);
            edges.valleyRefused(word + " 10;" + word + " 999;", 3, word.length() + 4);
        }
    }

    private void faultFour() {
        edges.about("4 a ninth WHO, a 13th FACT, a ninth 'since' (at the LINE's first WORD)", 4);
        edges.valleyRefused(people(8) + " who i;", 4, 49);
        edges.valleyRefused(people(8) + "who", 4, 48);
        edges.valleyRefused(people(8) + "who who;", 4, 48);
        String facts = people(1) + facts(12);
        edges.valleyRefused(facts + "fact z 1 0 a;", 4, facts.length());
        edges.valleyRefused(facts + "\nfact m 0 0 z;", 4, facts.length() + 1);
        String since = VALLEY + Check.times("since f g h;", 8);
        edges.valleyRefused(since + "since f g h;", 4, since.length());
        edges.valleyRefused(since + "since f f f;", 4, since.length());
        // of the others there may be more
        edges.valleyTaken(VALLEY + "knows a f;knows a g;knows a h;knows b f;knows b g;knows b h;knows c f;knows c g;knows c h;", 15);
        edges.valleyTaken(VALLEY + "asks a f 1;asks a g 1;asks a h 1;asks b f 1;asks b g 1;asks b h 1;asks c f 1;asks c g 1;asks c h 1;", 15);
        TruthCord x = new TruthCord();
        Check.valley(x, since + "?");
        edges.due("eight behind a VALLEY with a FAULT", 14, Check.valley(x, since));
        edges.due("count", 8, x.count(2));
        edges.due("none in the next", 6, Check.valley(x, VALLEY));
        edges.due("count", 0, x.count(2));
    }

    private void bookLines() {
        edges.about("A BOOK is a text of at most 900 bytes: { LINE ; }.", 8);
        edges.bookTaken(VALLEY, "", 0);
        edges.bookTaken(VALLEY, blanks(900), 0);
        edges.bookTaken(VALLEY, "day 1;" + blanks(894), 1);
        edges.bookTaken(VALLEY, blanks(894) + "day 1;", 1);
        edges.bookRefused(VALLEY, "day 1;" + blanks(895), 1, 900);
        edges.bookRefused(VALLEY, blanks(895) + "day 1;", 1, 900);
        edges.bookRefused(VALLEY, blanks(940), 1, 900);
        edges.bookRefused(VALLEY, ";", 1, 0);
        edges.bookRefused(VALLEY, "day 1;;", 1, 6);
        edges.bookRefused(VALLEY, "day 1", 1, 5);

        edges.about("The tape is the BOOK now: how many LINES", 8);
        TruthCord y = Check.with(VALLEY + "knows a f;", "a lies b f;a lies b f;day 7;");
        edges.due("another one", 1, Check.book(y, "a tells b f;"));
        edges.all("nothing of the old one", new int[] {1, 0, 0, 3}, y.count(3), y.debts(), y.autumn(6), y.line(0, 0));
        edges.due("an empty one", 0, Check.book(y, ""));
        edges.all("nothing of the old one", new int[] {0, 0, 0, -1}, y.count(3), y.debts(), y.autumn(4), y.wrong(0));
        // DEBTS of a longer BOOK are in nothing that is asked of a shorter one
        y = Check.with(VALLEY + "knows a f;knows a g;knows c h;moon 1;secret 10;found 40;", "a lies b f;a lies b f;a lies b f;a lies b f;day 9;");
        Check.sentence(y, "late or debts > 0");
        edges.due("a OWES four, LATE", 1, y.said());
        edges.due("an empty one", 0, Check.book(y, ""));
        edges.all("nothing is OWED", new int[] {-10000, 0, 0, 0, 0, 0}, y.terms(0), y.said(), y.needs(0, 0), y.buys(0, 0), y.feast(0), y.autumn(0));
        edges.all("nothing is FOUND", new int[] {1, 0, 0}, y.ripple(0, 1, 0, 0), y.ripple(0, 1, 0, 1), y.ripple(0, 1, 0, 2));
        edges.all("nothing is LED", new int[] {0, 0}, y.led(0, -1), y.led(1, -1));
        Check.book(y, "c tells b h;day 9;");
        edges.due("nobody is LATE", 0, y.said());
        Check.book(y, "a lies b f;a sells b f 0;");
        Check.book(y, "");
        edges.all("nothing of what was FOUND is OWED", new int[] {0, 0}, y.needs(0, 0), y.buys(0, 0));
        Check.book(y, "a lies b f;a lies b f;a tells c g;day 9;");
        edges.all("one of two is paid, both are LATE but for that", new int[] {1, 2, 1}, y.autumn(1), y.debts(), y.autumn(2));

        edges.about("WHO 'sells' WHO FACT N (0 to 99 COINS)", 8, 10);
        edges.bookTaken(VALLEY, "a sells b f 0;a sells b f 99;", 2);
        edges.bookRefused(VALLEY, "a sells b f 100;", 2, 12);
        edges.bookRefused(VALLEY, "a sells b f;", 1, 11);
        edges.bookRefused(VALLEY, "a sells b f 5 5;", 1, 14);
        TruthCord x = Check.with(VALLEY, "a sells b f 0;a sells b f 99;");
        edges.all("COINS", new int[] {0, 99}, x.line(0, 4), x.line(1, 4));

        edges.about("WHO 'hides' WHO FACT | WHO 'tells' WHO FACT", 8);
        edges.bookTaken(VALLEY, "a hides b f;a tells b f;", 2);
        edges.bookRefused(VALLEY, "a hides b f 5;", 1, 12);
        edges.bookRefused(VALLEY, "a tells b f with c;", 1, 12);
        edges.bookRefused(VALLEY, "a hides b f with c;", 1, 12);
        edges.bookRefused(VALLEY, "a b f;", 1, 2);
        edges.bookRefused(VALLEY, "a with b f;", 1, 2);
        edges.bookRefused(VALLEY, "a day b f;", 1, 2);
        edges.bookRefused(VALLEY, "a found b f;", 1, 2);
    }

    private void days() {
        edges.about("'day' N (0 to 999, above the DAY of then, which is 0 at first", 8);
        edges.bookTaken(VALLEY, "day 1;day 2;day 999;", 3);
        edges.bookTaken(VALLEY, "a tells b f;day 1;", 2);
        edges.bookRefused(VALLEY, "a tells b f;day 0;", 2, 16);
        edges.bookRefused(VALLEY, "day 999;day 999;", 2, 12);
        edges.bookRefused(VALLEY, "day 999;day 1000;", 1, 12);
        edges.bookRefused(VALLEY, "day 1000;", 1, 4);
        edges.bookRefused(VALLEY, "day 5;day 5;", 2, 10);
        edges.bookRefused(VALLEY, "day 5;a tells b f;day 4;", 2, 22);
        TruthCord x = Check.with(VALLEY, "day 999;");
        edges.due("the DAY", 999, x.autumn(6));
        edges.due("0 again at first in the next BOOK", 1, Check.book(x, "day 1;"));

        edges.about("as the first LINE of all 0, too)", 8);
        edges.bookTaken(VALLEY, "day 0;", 1);
        edges.bookTaken(VALLEY, "day 000;day 1;", 2);
        edges.bookRefused(VALLEY, "day 0;day 0;", 2, 10);
        edges.bookRefused(VALLEY, "a lies b f;day 0;", 2, 15);
        Check.book(x, "day 7;");
        edges.due("also behind a BOOK with another DAY", 1, Check.book(x, "day 0;"));
        edges.due("the DAY", 0, x.autumn(6));
    }

    private void with() {
        edges.about("WHO 'lies' WHO FACT { 'with' WHO }", 8, 10);
        String eight = people(8) + "fact m 5 5 a;";
        edges.bookTaken(VALLEY, "a lies b f;", 1);
        edges.bookTaken(VALLEY, "a lies b f with c;", 1);
        edges.bookTaken(eight, "a lies b m with c with d with e with f with g with h;", 1);
        edges.bookRefused(eight, "a lies b m with c with d with e with f with g with h with a;", 3, 58);
        edges.bookRefused(eight, "a lies b m with c with d with e with f with g with h h;", 1, 53);
        edges.bookRefused(VALLEY, "a lies b f with;", 1, 15);
        edges.bookRefused(VALLEY, "a lies b f with c c;", 1, 18);
        edges.bookRefused(VALLEY, "a lies b f c;", 1, 11);
        edges.bookRefused(VALLEY, "a lies b f with with c;", 1, 16);
        edges.bookRefused(VALLEY, "a lies b with c f;", 1, 9);
        TruthCord x = Check.with(eight, "a lies b m with h with c;b lies a m;h lies a m with b with c with d with e with f with g;");
        edges.all("as bits", new int[] {1 << 7 | 1 << 2, 0, 0b1111110}, x.line(0, 4), x.line(1, 4), x.line(2, 4));
    }

    private void bookFaults() {
        edges.about("3 (no such NAME; one WHO twice in a LINE: at the latter)", 8);
        edges.bookRefused(VALLEY, "z lies b f;", 3, 0);
        edges.bookRefused(VALLEY, "f lies b f;", 3, 0);
        edges.bookRefused(VALLEY, "a lies z f;", 3, 7);
        edges.bookRefused(VALLEY, "a lies f f;", 3, 7);
        edges.bookRefused(VALLEY, "a lies b z;", 3, 9);
        edges.bookRefused(VALLEY, "a lies b a;", 3, 9);
        edges.bookRefused(VALLEY, "a lies b f with z;", 3, 16);
        edges.bookRefused(VALLEY, "a lies b f with f;", 3, 16);
        edges.bookRefused(VALLEY, "a lies a f;", 3, 7);
        edges.bookRefused(VALLEY, "a hides a f;", 3, 8);
        edges.bookRefused(VALLEY, "a tells a f;", 3, 8);
        edges.bookRefused(VALLEY, "a sells a f 5;", 3, 8);
        edges.bookRefused(VALLEY, "a lies b f with a;", 3, 16);
        edges.bookRefused(VALLEY, "a lies b f with b;", 3, 16);
        edges.bookRefused(VALLEY, "a lies b f with c with c;", 3, 23);
        edges.bookTaken(VALLEY, "a lies b f with c;a lies b f with c;", 2);
        TruthCord x = new TruthCord();
        edges.fault("nobody there", 3, 0, Check.book(x, "a tells b f;"), x);

        edges.about("4 a 61st LINE (at its first WORD)", 8);
        String sixty = Check.times("a tells b f;", 60);
        edges.bookTaken(VALLEY, sixty, 60);
        edges.bookTaken(VALLEY, sixty + blanks(180), 60);
        edges.bookRefused(VALLEY, sixty + "a tells b f;", 4, 720);
        edges.bookRefused(VALLEY, sixty + "\na", 4, 721);
        edges.bookRefused(VALLEY, sixty + "day", 4, 720);
        edges.bookRefused(VALLEY, sixty + "day 0;", 4, 720);
        edges.bookRefused(VALLEY, sixty + blanks(181), 1, 900);
        StringBuilder days = new StringBuilder();
        for (int i = 0; i < 60; i++) {
            days.append("day ").append(i).append(';');
        }
        edges.bookTaken(VALLEY, days.toString(), 60);
        edges.bookRefused(VALLEY, days + "day 99;", 4, days.length());
    }

    private void sentences() {
        edges.about("A SENTENCE is a text of at most 200 bytes", 33);
        edges.sentenceTaken(VALLEY, "late" + blanks(196), 1);
        edges.sentenceTaken(VALLEY, blanks(196) + "late", 1);
        edges.sentenceRefused(VALLEY, "late" + blanks(197), 1, 200);
        edges.sentenceRefused(VALLEY, blanks(197) + "late", 1, 200);
        edges.sentenceRefused(VALLEY, blanks(201), 1, 200);
        edges.sentenceRefused(VALLEY, blanks(940), 1, 200);
        edges.sentenceRefused(VALLEY, blanks(200), 1, 200);

        edges.about("The tape is the SENTENCE now: how many ONES (each not, bracket and other one)", 33);
        edges.sentenceTaken(VALLEY, "late", 1);
        edges.sentenceTaken(VALLEY, "has f", 1);
        edges.sentenceTaken(VALLEY, "owes < 5", 1);
        edges.sentenceTaken(VALLEY, "not late", 2);
        edges.sentenceTaken(VALLEY, "(has f)", 2);
        edges.sentenceTaken(VALLEY, "late and late or late", 3);
        edges.sentenceTaken(VALLEY, "not (not late and (has f or owes < 5))", 7);
        TruthCord x = Check.with(VALLEY, "");
        Check.sentence(x, "not late");
        Check.sentence(x, "late");
        edges.due("another one", 0, x.said());

        edges.about("COND: ALL { 'or' ALL }. ALL: ONE { 'and' ONE }.", 33);
        edges.sentenceRefused(VALLEY, "", 1, 0);
        edges.sentenceTaken(VALLEY, "late or late and late or late", 4);
        Check.sentence(x, "owes = 0 or late and late");
        edges.due("'and' holds closer behind 'or'", 7, x.said());
        Check.sentence(x, "late and late or owes = 0");
        edges.due("'and' holds closer ahead of 'or'", 7, x.said());
        Check.sentence(x, "(owes = 0 or late) and late");
        edges.due("but for brackets", 0, x.said());
        edges.sentenceRefused(VALLEY, "or late", 1, 0);
        edges.sentenceRefused(VALLEY, "and", 1, 0);
        edges.sentenceRefused(VALLEY, "late or or late", 1, 8);
        edges.sentenceRefused(VALLEY, "late and or late", 1, 9);
        edges.sentenceRefused(VALLEY, "late late", 1, 5);
        edges.sentenceRefused(VALLEY, "late)", 1, 4);
        edges.sentenceRefused(VALLEY, "late;", 1, 4);
        edges.sentenceRefused(VALLEY, "late 5", 1, 5);

        edges.about("ONE: 'not' ONE | ( COND )", 33);
        edges.sentenceTaken(VALLEY, "not late", 2);
        edges.sentenceTaken(VALLEY, "(late)", 2);
        edges.sentenceTaken(VALLEY, "not(not late or late)", 5);
        Check.sentence(x, "not late or owes = 0 and late");
        edges.due("'not' is of one ONE alone", 7, x.said());
        Check.sentence(x, "not owes = 0 and late");
        edges.due("'not' is of one ONE alone", 0, x.said());
        Check.sentence(x, "not (owes = 0 or late)");
        edges.due("'not' of a bracket", 0, x.said());
        edges.sentenceRefused(VALLEY, "()", 1, 1);
        edges.sentenceRefused(VALLEY, "not", 1, 3);
        edges.sentenceRefused(VALLEY, "not or", 1, 4);
        edges.sentenceRefused(VALLEY, "not)", 1, 3);
        edges.sentenceRefused(VALLEY, "(late", 1, 5);
        edges.sentenceRefused(VALLEY, "(late;", 1, 5);
        edges.sentenceRefused(VALLEY, "(late))", 1, 6);

        edges.about("( 'owes' | 'debts' | 'paid' | 'hurt' | 'coins' ) SIGN NUMBER", 33);
        edges.sentenceTaken(VALLEY, "owes<0 or debts=999 or paid>5 or hurt<5 or coins=5", 5);
        for (String word : new String[] {"owes", "debts", "paid", "hurt", "coins"}) {
            edges.sentenceRefused(VALLEY, word + " 5", 1, word.length() + 1);
            edges.sentenceRefused(VALLEY, word + " (5", 1, word.length() + 1);
            edges.sentenceRefused(VALLEY, word + " < f", 1, word.length() + 3);
            edges.sentenceRefused(VALLEY, word + " <= 5", 1, word.length() + 2);
            edges.sentenceRefused(VALLEY, word + " < 5 5", 1, word.length() + 5);
        }
        edges.sentenceRefused(VALLEY, "late < 5", 1, 5);
        edges.sentenceRefused(VALLEY, "has < 5", 1, 4);
    }

    private void within() {
        edges.about("20 ONES, 8 within one another.", 33);
        edges.sentenceTaken(VALLEY, "late" + Check.times(" or late", 19), 20);
        edges.sentenceTaken(VALLEY, "late" + Check.times(" and not late", 9) + " or late", 20);
        edges.sentenceTaken(VALLEY, "(late)" + Check.times("or(late)", 9), 20);
        edges.sentenceTaken(VALLEY, Check.times("(", 7) + "late" + Check.times(")", 7), 8);
        edges.sentenceTaken(VALLEY, Check.times("not ", 7) + "late", 8);
        edges.sentenceTaken(VALLEY, "not(not(not(not late)))or(not(not(not(late))))", 16);
        // those that stand beside one another are not within one another
        edges.sentenceTaken(VALLEY, Check.times("not ", 7) + "late and " + Check.times("not ", 7) + "late", 16);
        edges.sentenceTaken(VALLEY, Check.times("(", 6) + "late" + Check.times(" or late", 12) + Check.times(")", 6), 19);

        edges.about("4 a 21st ONE, a ninth within (at its first TOKEN)", 33);
        edges.sentenceRefused(VALLEY, "late" + Check.times(" or late", 20), 4, 160);
        edges.sentenceRefused(VALLEY, "late" + Check.times(" or late", 18) + " or not late", 4, 156);
        edges.sentenceRefused(VALLEY, "late" + Check.times(" or late", 18) + " or (late)", 4, 153);
        edges.sentenceRefused(VALLEY, "late" + Check.times(" or late", 19) + " or owes", 4, 160);
        edges.sentenceRefused(VALLEY, Check.times("(", 9), 4, 8);
        edges.sentenceRefused(VALLEY, Check.times("(", 8) + "late" + Check.times(")", 8), 4, 8);
        edges.sentenceRefused(VALLEY, Check.times("not ", 8) + "late", 4, 32);
        edges.sentenceRefused(VALLEY, Check.times("not ", 8) + "has", 4, 32);
        edges.sentenceRefused(VALLEY, "late or " + Check.times("(", 8) + " owes", 4, 17);
    }

    private void sentenceFaults() {
        edges.about("3 (no such FACT)", 33);
        edges.sentenceTaken(VALLEY, "has f or has g or has h", 3);
        edges.sentenceRefused(VALLEY, "has z", 3, 4);
        edges.sentenceRefused(VALLEY, "has a", 3, 4);
        edges.sentenceRefused(VALLEY, "late and (has  z)", 3, 15);
        edges.sentenceRefused(VALLEY, "has 5", 1, 4);
        edges.sentenceRefused(VALLEY, "has late", 1, 4);
        edges.sentenceRefused(VALLEY, "has (f)", 1, 4);
        edges.sentenceRefused("", "has f", 3, 4);
        TruthCord x = Check.with(VALLEY, "");
        Check.valley(x, "who a;fact z 1 0 a;");
        edges.fault("a FACT of the VALLEY before", 3, 4, Check.sentence(x, "has f"), x);
    }
}
