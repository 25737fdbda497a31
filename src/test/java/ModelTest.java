import java.util.ArrayList;
import java.util.List;
import java.util.Random;

/** Promises 4 to 27, 33 and 34: texts, good and bad, drawn by fixed seeds, against the slow telling of the document. */
final class ModelTest {
    private static final Check CHECK = new Check("ModelTest");
    private static final String[] VERBS = {"lies", "hides", "tells", "sells"};
    private static final String[] SUMS = {"owes", "debts", "paid", "hurt", "coins"};
    private static final String[] SOUP = {"who", "fact", "knows", "since", "asks", "moon", "old", "secret", "silent", "found", "day",
        "lies", "hides", "tells", "sells", "with", "or", "and", "not", "has", "late", "owes", "debts", "paid", "hurt", "coins",
        ";", "<", "=", ">", "(", ")", ".", "A", "a", "b", "c", "d", "pa", "pb", "pc", "fa", "fb", "fc", "fd", "0", "1", "5", "9", "10", "99",
        "100", "999", "1000", "a1", "1a", "abcdefg", "\u00ff", "\u0000", "\n", " "};

    private final Random dice;
    private int people;
    private int facts;

    private ModelTest(long seed) {
        dice = new Random(seed);
    }

    public static void main(String[] args) {
        for (int seed = 0; seed < 400; seed++) {
            new ModelTest(seed).worlds();
        }
        for (int seed = 0; seed < 400; seed++) {
            new ModelTest(1000 + seed).faults();
        }
        CHECK.finish();
    }

    private int below(int n) {
        return dice.nextInt(n);
    }

    private static String who(int i) {
        return "p" + (char) ('a' + i);
    }

    private static String fact(int i) {
        return "f" + (char) ('a' + i);
    }

    private String valley() {
        people = 2 + below(7);
        facts = 1 + below(7);
        StringBuilder text = new StringBuilder();
        for (int i = 0; i < people; i++) {
            text.append("who ").append(who(i)).append(';');
        }
        for (int i = 0; i < facts; i++) {
            text.append("fact ").append(fact(i)).append(' ').append(1 + below(below(2) == 0 ? 12 : 99)).append(' ')
                .append(below(6)).append(' ').append(who(below(people))).append(';');
        }
        for (int i = 0; facts >= 3 && i < below(7); i++) {
            int a = below(facts);
            int b = (a + 1 + below(facts - 1)) % facts;
            int c = 0;
            while (c == a || c == b) {
                c++;
            }
            text.append("since ").append(fact(a)).append(' ').append(fact(b)).append(' ').append(fact(c)).append(';');
        }
        int often = 1 + below(5);
        for (int i = 0; i < people; i++) {
            for (int k = 0; k < facts; k++) {
                if (below(6) < often && text.length() < 780) {
                    text.append("knows ").append(who(i)).append(' ').append(fact(k)).append(';');
                }
                if (below(6) == 0 && text.length() < 780) {
                    text.append("asks ").append(who(i)).append(' ').append(fact(k)).append(' ').append(below(9)).append(";\n");
                }
            }
        }
        String[] settings = {"moon " + (1 + below(9)), "old " + below(11), "secret " + (10 + below(21)), "silent " + below(21),
            "found " + (10 + below(31))};
        for (String s : settings) {
            text.append(below(2) == 0 ? s + ";" : "");
        }
        return text.toString();
    }

    private String book() {
        StringBuilder text = new StringBuilder();
        int lines = below(61);
        int day = 0;
        for (int i = 0; i < lines && text.length() < 830; i++) {
            if (below(6) == 0) {
                day += 1 + below(4);
                text.append("day ").append(day).append(';');
                continue;
            }
            int a = below(people);
            int b = (a + 1 + below(people - 1)) % people;
            int verb = below(4);
            text.append(who(a)).append(' ').append(VERBS[verb]).append(' ').append(who(b)).append(' ').append(fact(below(facts)));
            if (verb == 0) {
                int c = below(people);
                for (int k = 0; k < people && below(2) == 0; k++) {
                    int p = (c + k * (people % 2 == 0 ? 1 : 2)) % people;
                    if (p != a && p != b) {
                        text.append(" with ").append(who(p));
                    }
                }
            }
            text.append(verb == 3 ? " " + below(100) : "").append(';');
        }
        return text.toString();
    }

    private String sentence(int depth) {
        int sort = below(depth > 3 ? 7 : 10);
        if (sort == 0) {
            return "has " + fact(below(facts));
        }
        if (sort == 1) {
            return "late";
        }
        if (sort < 7) {
            return SUMS[sort - 2] + "<=>".charAt(below(3)) + below(below(2) == 0 ? 4 : 40);
        }
        if (sort == 7) {
            return "not " + (below(2) == 0 ? "late" : "(" + sentence(depth + 1) + ")");
        }
        if (sort == 8) {
            return "(" + sentence(depth + 1) + ")";
        }
        return sentence(depth + 1) + (below(2) == 0 ? " and " : " or ") + sentence(depth + 1);
    }

    private void worlds() {
        String text = valley();
        TruthCord x = new TruthCord();
        Slow slow = Slow.valley(text);
        CHECK.due("4 " + text, slow.valleyLines, Check.valley(x, text));
        for (int round = 0; round < 4; round++) {
            if (round == 3) {
                int n = 1 + below(60);
                int seed = dice.nextInt();
                CHECK.due("9 drawn(" + n + ", " + seed + ")", n, x.drawn(n, seed));
                slow.book = slow.drawn(n, seed);
            } else {
                String lines = book();
                slow.book = slow.readBook(lines);
                CHECK.due("8 " + lines, slow.book.size(), Check.book(x, lines));
            }
            String all = sentence(0);
            if (all.length() <= 200) {
                int got = Check.sentence(x, all);
                try {
                    slow.readSentence(all);
                    CHECK.due("33 " + all, slow.ones, got);
                } catch (Slow.Refused e) {
                    CHECK.fault("33 " + all, e.kind, e.place, got, x);
                }
            }
            compare(x, slow);
        }
    }

    private void compare(TruthCord x, Slow slow) {
        Slow.World w = slow.judge(slow.book);
        lines(x, slow, w);
        debts(x, w);
        people(x, slow, w);
        autumn(x, w);
        feast(x, slow, w);
        order(x, slow);
        for (int i = -1; i <= slow.book.size(); i++) {
            List<Slow.Line> less = new ArrayList<>(slow.book);
            boolean there = i >= 0 && i < less.size();
            if (there) {
                less.remove(i);
            }
            CHECK.due("27 unsaid(" + i + ")", there ? slow.judge(less).owed() : -1, x.unsaid(i));
        }
        int all = 0;
        for (int p = 0; p < people && slow.sentence != null; p++) {
            all |= slow.sentence.test(w, p) ? 1 << p : 0;
        }
        CHECK.due("34 said()", slow.sentence == null ? -1 : all, x.said());
        lines(x, slow, w);
        debts(x, w);
    }

    private void lines(TruthCord x, Slow slow, Slow.World w) {
        for (int i = 0; i < slow.book.size(); i++) {
            Slow.Line l = slow.book.get(i);
            int with = 0;
            for (int p : l.with()) {
                with |= 1 << p;
            }
            int[] want = {l.kind(), l.who(), l.to(), l.fact(), with + l.coins()};
            for (int what = 0; what < 5; what++) {
                CHECK.due("10 line(" + i + ", " + what + ")", want[what], x.line(i, what));
            }
            CHECK.due("11 wrong(" + i + ")", w.why.get(i), x.wrong(i));
        }
    }

    private void debts(TruthCord x, Slow.World w) {
        CHECK.due("12 debts()", w.debts.size(), x.debts());
        for (int d = 0; d < w.debts.size(); d++) {
            Slow.Debt o = w.debts.get(d);
            int[] want = {o.who, o.to, o.fact, o.first, o.now, o.line, o.paidBy, o.found ? 1 : 0, w.late(o) ? 1 : 0};
            for (int what = 0; what < 9; what++) {
                CHECK.due("13 debt(" + d + ", " + what + ")", want[what], x.debt(d, what));
            }
        }
    }

    private void people(TruthCord x, Slow slow, Slow.World w) {
        Slow.World first = slow.judge(List.of());
        for (int p = 0; p < people; p++) {
            CHECK.due("7 at first", Slow.bits(first.known.get(p)), x.knows(p, 0));
            CHECK.due("7 at the end", Slow.bits(w.known.get(p)), x.knows(p, 1));
            for (int what = 0; what < 5; what++) {
                CHECK.due("15 came(" + p + ", " + what + ")", Slow.came(w, p, SUMS[what]), x.came(p, what));
            }
            for (int f = 0; f < facts; f++) {
                boolean his = w.known.get(p).contains(f);
                CHECK.due("14 worth(" + p + ", " + f + ")", his ? w.worth(p, f) : -1, x.worth(p, f));
                CHECK.due("22 source(" + p + ", " + f + ")", w.source.getOrDefault(List.of(p, f), -1), x.source(p, f));
            }
            int who = p;
            int terms = w.debts.stream().filter(d -> d.who == who && d.now > 0)
                .mapToInt(d -> d.day + slow.settings[0] + 1 - w.day).min().orElse(-10000);
            CHECK.due("21 terms(" + p + ")", terms, x.terms(p));
            int[] needs = slow.wants(w, p, false);
            CHECK.due("19 needs(" + p + ", 0)", needs == null ? -1 : Integer.bitCount(needs[1]), x.needs(p, 0));
            CHECK.due("19 needs(" + p + ", 1)", needs == null ? -1 : needs[1], x.needs(p, 1));
            int[] buys = slow.wants(w, p, true);
            CHECK.due("20 buys(" + p + ", 0)", buys == null ? -1 : buys[0], x.buys(p, 0));
            CHECK.due("20 buys(" + p + ", 1)", buys == null ? -1 : buys[1], x.buys(p, 1));
        }
        for (int i = 0; i < 12; i++) {
            int a = below(people + 1);
            int b = below(people + 1);
            int f = below(facts + 1);
            for (int what = 0; what < 4; what++) {
                CHECK.due("26 ripple(" + a + ", " + b + ", " + f + ", " + what + ")", slow.ripple(a, b, f, what), x.ripple(a, b, f, what));
            }
        }
    }

    private void autumn(TruthCord x, Slow.World w) {
        int hurt = 0;
        for (int h : w.hurt) {
            hurt += h;
        }
        long[] want = {w.owed(), w.debts.stream().filter(d -> d.now > 0).count(), w.debts.stream().filter(w::late).count(),
            w.debts.stream().filter(d -> d.found).count(), hurt, w.why.stream().filter(y -> y != 0).count(), w.day};
        for (int what = 0; what < want.length; what++) {
            CHECK.due("16 autumn(" + what + ")", want[what], x.autumn(what));
        }
        for (int f = 0; f < facts; f++) {
            int fact = f;
            List<Integer> led = new ArrayList<>();
            for (int d = 0; d < w.debts.size(); d++) {
                int by = w.debts.get(d).paidBy;
                if (by >= 0 && x.line(by, 3) == fact) {
                    led.add(d);
                }
            }
            CHECK.due("23 led(" + f + ", NONE)", led.size(), x.led(f, -1));
            for (int k = 0; k <= led.size(); k++) {
                CHECK.due("23 led(" + f + ", " + k + ")", k < led.size() ? led.get(k) : -1, x.led(f, k));
            }
        }
    }

    private void feast(TruthCord x, Slow slow, Slow.World w) {
        int[] feast = slow.feast(w);
        CHECK.due("17 feast(0)", feast[0], x.feast(0));
        CHECK.due("17 feast(1)", feast[1], x.feast(1));
        for (int k = -1; k < 9; k++) {
            boolean paid = k >= 0 && k + 2 < feast.length && feast[k + 2] != 99;
            CHECK.due("18 feastAt(" + k + ")", paid ? feast[k + 2] : -1, x.feastAt(k));
        }
    }

    private void order(TruthCord x, Slow slow) {
        for (int round = 0; round < 3; round++) {
            int n = 1 + below(round == 0 ? 5 : 3);
            List<int[]> tellings = new ArrayList<>();
            int[] bytes = new int[3 * n];
            for (int i = 0; i < n; i++) {
                int a = below(people);
                int[] t = {a, (a + 1 + below(people - 1)) % people, below(facts)};
                tellings.add(t);
                System.arraycopy(t, 0, bytes, 3 * i, 3);
            }
            int[] want = slow.order(tellings);
            Check.tape(x, bytes);
            CHECK.due("24 order()", want[0], x.order());
            for (int i = -1; i <= n; i++) {
                CHECK.due("25 orderAt(" + i + ")", i >= 0 && i < n ? want[2 + i] : -1, x.orderAt(i));
            }
        }
    }

    /** One place of a good text is made a bad one, or the text is one of words by chance. */
    private String spoilt(String text, int limit) {
        StringBuilder all = new StringBuilder(text);
        if (below(12) == 0) {
            all.setLength(0);
            for (int i = 0; i < below(9); i++) {
                all.append(SOUP[below(SOUP.length)]).append(' ');
            }
        }
        if (below(12) == 0) {
            while (all.length() < limit - 8) {
                all.append(' ');
            }
            while (all.length() < limit + below(9)) {
                all.append(below(3) == 0 ? " " : SOUP[below(SOUP.length)]);
            }
        }
        for (int i = 0; i < 1 + below(3); i++) {
            int at = below(all.length() + 1);
            int to = Math.min(all.length(), at + below(4));
            if (below(4) > 0) {
                while (at > 0 && all.charAt(at - 1) != ' ' && all.charAt(at - 1) != ';') {
                    at--;
                }
                while (to < all.length() && all.charAt(to) != ' ' && all.charAt(to) != ';') {
                    to++;
                }
            }
            all.replace(at, to, below(3) == 0 ? "" : SOUP[below(SOUP.length)]);
        }
        if (all.length() > 940) {
            all.setLength(940);
        }
        return all.toString();
    }

    private void faults() {
        String good = valley();
        Slow slow = Slow.valley(good);
        TruthCord x = new TruthCord();
        Check.valley(x, good);
        for (int i = 0; i < 40; i++) {
            String text = spoilt(book(), 900);
            int got = Check.book(x, text);
            try {
                CHECK.due("8 book " + text, slow.readBook(text).size(), got);
                CHECK.due("5 its fault", 0, x.fault());
            } catch (Slow.Refused e) {
                CHECK.fault("8 book " + text, e.kind, e.place, got, x);
            }
            text = spoilt(sentence(0), 200);
            got = Check.sentence(x, text);
            try {
                slow.readSentence(text);
                CHECK.due("33 sentence " + text, slow.ones, got);
                CHECK.due("5 its fault", 0, x.fault());
            } catch (Slow.Refused e) {
                CHECK.fault("33 sentence " + text, e.kind, e.place, got, x);
            }
        }
        for (int i = 0; i < 40; i++) {
            String text = spoilt(valley(), 900);
            int got = Check.valley(x, text);
            try {
                CHECK.due("4 valley " + text, Slow.valley(text).valleyLines, got);
                CHECK.due("5 its fault", 0, x.fault());
            } catch (Slow.Refused e) {
                CHECK.fault("4 valley " + text, e.kind, e.place, got, x);
            }
        }
    }
}
