import java.util.ArrayList;
import java.util.Arrays;
import java.util.HashSet;
import java.util.LinkedHashMap;
import java.util.List;
import java.util.Map;
import java.util.Set;
import java.util.TreeSet;
import java.util.function.BiPredicate;
import java.util.regex.Matcher;
import java.util.regex.Pattern;

/** The document once more, told in another way and as plainly as can be: texts by tables, choices by trying all. */
final class Slow {
    static final class Refused extends RuntimeException {
        private static final long serialVersionUID = 1;
        final int kind;
        final int place;

        Refused(int kind, int place) {
            this.kind = kind;
            this.place = place;
        }
    }

    record Token(char sort, String text, int at) { }

    record Fact(int length, int hurt, int about) { }

    record Since(int one, int two, int three) { }

    /** A LINE of the BOOK: kind as line() tells it. */
    record Line(int kind, int who, int to, int fact, List<Integer> with, int coins, int day) { }

    static final class Debt {
        int who;
        int to;
        int fact;
        int first;
        int now;
        int line;
        int day;
        int paidBy = -1;
        int paidDay = -1;
        boolean found;
    }

    /** What a BOOK comes to. */
    final class World {
        final List<Set<Integer>> known = new ArrayList<>();
        final List<Debt> debts = new ArrayList<>();
        final List<Integer> why = new ArrayList<>();
        final Map<List<Integer>, Integer> source = new LinkedHashMap<>();
        final Set<Integer> told = new HashSet<>();
        final int[] hurt = new int[8];
        final int[] coins = new int[8];
        int day;

        int owed() {
            return debts.stream().mapToInt(d -> d.now).sum();
        }

        int worth(int who, int f) {
            int length = facts.get(f).length;
            if (told.contains(f)) {
                return length * settings[1] / 10;
            }
            long knowers = known.stream().filter(k -> k.contains(f)).count();
            return knowers == 1 && facts.get(f).about != who ? length * settings[2] / 10 : length;
        }

        boolean late(Debt d) {
            return (d.now > 0 ? day : d.paidDay) > d.day + settings[0];
        }
    }

    static final Set<String> WORDS = Set.of(("who fact knows since asks moon old secret silent found day lies hides tells sells "
        + "with or and not has late owes debts paid hurt coins").split(" "));
    static final Map<String, String> SLOTS = Map.of("who", "new", "fact", "new 1-99 0-99 who", "knows", "who fact",
        "since", "fact fact fact", "asks", "who fact 0-99", "moon", "1-99", "old", "0-10", "secret", "10-30",
        "silent", "0-20", "found", "10-40");
    static final List<String> SETTINGS = List.of("moon", "old", "secret", "silent", "found");

    final List<String> people = new ArrayList<>();
    final List<String> factNames = new ArrayList<>();
    final List<Fact> facts = new ArrayList<>();
    final List<Since> since = new ArrayList<>();
    final Map<List<Integer>, Integer> asks = new LinkedHashMap<>();
    final Set<List<Integer>> knows = new HashSet<>();
    final int[] settings = {28, 5, 15, 5, 20};
    int valleyLines;
    List<Line> book = new ArrayList<>();
    BiPredicate<World, Integer> sentence;
    int ones;

    static List<Token> tokens(String text, int limit) {
        List<Token> all = new ArrayList<>();
        Matcher m = Pattern.compile("[a-z0-9]+|[^ \n]", Pattern.DOTALL).matcher(text);
        while (m.find() && m.start() < limit) {
            String t = m.group();
            char sort = t.matches("[a-z]{1,6}") ? 'w' : t.matches("[0-9]{1,3}") ? 'n' : t.matches("[;<=>()]") ? 's' : '?';
            all.add(new Token(sort, t, m.start()));
        }
        all.add(text.length() > limit ? new Token('?', "", limit) : new Token('$', "", text.length()));
        return all;
    }

    private static void must(boolean so, int kind, Token at) {
        if (!so) {
            throw new Refused(kind, at.at);
        }
    }

    private static boolean isName(Token t) {
        return t.sort == 'w' && !WORDS.contains(t.text);
    }

    static Slow valley(String text) {
        Slow v = new Slow();
        Set<String> set = new HashSet<>();
        List<Token> all = tokens(text, 900);
        int i = 0;
        while (all.get(i).sort != '$') {
            Token head = all.get(i++);
            must(head.sort == 'w' && SLOTS.containsKey(head.text), 1, head);
            must(!SETTINGS.contains(head.text) || set.add(head.text), 3, head);
            must(!head.text.equals("who") || v.people.size() < 8, 4, head);
            must(!head.text.equals("fact") || v.facts.size() < 12, 4, head);
            must(!head.text.equals("since") || v.since.size() < 8, 4, head);
            List<Integer> got = new ArrayList<>();
            String name = null;
            for (String slot : SLOTS.get(head.text).split(" ")) {
                Token t = all.get(i++);
                if (slot.equals("new")) {
                    must(isName(t), 1, t);
                    must(!v.people.contains(t.text) && !v.factNames.contains(t.text), 3, t);
                    name = t.text;
                } else if (slot.contains("-")) {
                    got.add(number(t, slot));
                } else {
                    got.add(v.named(t, slot));
                    v.mustBeNew(head.text, got, t);
                }
            }
            Token last = all.get(i++);
            must(last.text.equals(";"), 1, last);
            v.put(head.text, name, got);
            v.valleyLines++;
        }
        return v;
    }

    private static int number(Token t, String range) {
        must(t.sort == 'n', 1, t);
        int n = Integer.parseInt(t.text);
        must(n >= Integer.parseInt(range.split("-")[0]) && n <= Integer.parseInt(range.split("-")[1]), 2, t);
        return n;
    }

    private int named(Token t, String sort) {
        must(isName(t), 1, t);
        int n = (sort.equals("who") ? people : factNames).indexOf(t.text);
        must(n >= 0, 3, t);
        return n;
    }

    private void mustBeNew(String head, List<Integer> got, Token t) {
        int n = got.size();
        must(!head.equals("knows") || !knows.contains(got), 3, t);
        must(!head.equals("asks") || !asks.containsKey(got), 3, t);
        must(!head.equals("since") || got.indexOf(got.get(n - 1)) == n - 1, 3, t);
    }

    private void put(String head, String name, List<Integer> got) {
        switch (head) {
            case "who" -> people.add(name);
            case "fact" -> {
                factNames.add(name);
                facts.add(new Fact(got.get(0), got.get(1), got.get(2)));
            }
            case "knows" -> knows.add(got);
            case "since" -> since.add(new Since(got.get(0), got.get(1), got.get(2)));
            case "asks" -> asks.put(List.of(got.get(0), got.get(1)), got.get(2));
            default -> settings[SETTINGS.indexOf(head)] = got.get(0);
        }
    }

    List<Line> readBook(String text) {
        List<Line> lines = new ArrayList<>();
        List<Token> all = tokens(text, 900);
        int day = 0;
        int i = 0;
        while (all.get(i).sort != '$') {
            Token head = all.get(i++);
            int who = head.text.equals("day") ? -1 : named(head, "who");
            must(lines.size() < 60, 4, head);
            if (who < 0) {
                day = number(all.get(i++), (lines.isEmpty() ? 0 : day + 1) + "-999");
                lines.add(new Line(0, day, -1, -1, List.of(), 0, day));
            } else {
                Token verb = all.get(i++);
                int kind = List.of("lies", "hides", "tells", "sells").indexOf(verb.text) + 1;
                must(kind > 0, 1, verb);
                Token t = all.get(i++);
                int to = named(t, "who");
                must(to != who, 3, t);
                int fact = named(all.get(i++), "fact");
                int coins = kind == 4 ? number(all.get(i++), "0-99") : 0;
                List<Integer> with = new ArrayList<>();
                while (kind == 1 && all.get(i).text.equals("with")) {
                    t = all.get(i + 1);
                    int one = named(t, "who");
                    must(one != who && one != to && !with.contains(one), 3, t);
                    with.add(one);
                    i += 2;
                }
                lines.add(new Line(kind, who, to, fact, with, coins, day));
            }
            Token last = all.get(i++);
            must(last.text.equals(";"), 1, last);
        }
        return lines;
    }

    List<Line> drawn(int n, int seed) {
        int[] x = {seed};
        List<Line> lines = new ArrayList<>();
        int day = 0;
        while (lines.size() < n) {
            int what = draw(x, 8);
            int who = draw(x, people.size());
            int to = draw(x, people.size());
            int fact = draw(x, facts.size());
            to = to == who ? (to + 1) % people.size() : to;
            if (what == 0) {
                day++;
                lines.add(new Line(0, day, -1, -1, List.of(), 0, day));
            } else {
                int kind = what <= 2 ? 1 : what == 3 ? 2 : what == 4 ? 4 : 3;
                lines.add(new Line(kind, who, to, fact, List.of(), kind == 4 ? draw(x, 20) : 0, day));
            }
        }
        return lines;
    }

    static int draw(int[] x, int n) {
        x[0] = x[0] * 1103515245 + 12345;
        return (x[0] >>> 8) % n;
    }

    private void follow(Set<Integer> known) {
        boolean more = true;
        while (more) {
            more = false;
            for (Since s : since) {
                more |= known.contains(s.one) && known.contains(s.two) && known.add(s.three);
            }
        }
    }

    World judge(List<Line> lines) {
        World w = new World();
        for (int p = 0; p < people.size(); p++) {
            Set<Integer> known = new TreeSet<>();
            for (List<Integer> k : knows) {
                if (k.get(0) == p) {
                    known.add(k.get(1));
                }
            }
            follow(known);
            w.known.add(known);
        }
        for (int i = 0; i < lines.size(); i++) {
            w.why.add(judge(w, lines.get(i), i));
        }
        return w;
    }

    private static int up(int a, int b) {
        return a / b + (a % b > 0 ? 1 : 0);
    }

    private int judge(World w, Line l, int i) {
        w.day = l.day;
        if (l.kind == 0) {
            return 0;
        }
        List<Integer> doers = new ArrayList<>(List.of(l.who));
        doers.addAll(l.with);
        if (!doers.stream().allMatch(p -> w.known.get(p).contains(l.fact))) {
            return 1;
        }
        if (w.known.get(l.to).contains(l.fact)) {
            return 2;
        }
        Fact f = facts.get(l.fact);
        if (l.kind == 1) {
            doers.forEach(p -> owe(w, p, l, up(f.length, doers.size()), i));
        } else if (l.kind == 2) {
            owe(w, l.who, l, up(f.length * settings[3], 10), i);
        } else {
            if (l.kind == 3) {
                int worth = w.worth(l.who, l.fact);
                w.debts.stream().filter(d -> d.who == l.who && d.now > 0 && d.now <= worth).findFirst().ifPresent(d -> {
                    d.now = 0;
                    d.paidBy = i;
                    d.paidDay = l.day;
                });
                w.hurt[f.about] += f.hurt;
            } else {
                w.coins[l.who] += l.coins;
                w.coins[l.to] -= l.coins;
            }
            learn(w, l.to, l.fact, i);
        }
        return 0;
    }

    private static void owe(World w, int who, Line l, int much, int i) {
        if (much > 0) {
            Debt d = new Debt();
            d.who = who;
            d.to = l.to;
            d.fact = l.fact;
            d.first = much;
            d.now = much;
            d.line = i;
            d.day = l.day;
            w.debts.add(d);
        }
    }

    private void learn(World w, int who, int fact, int i) {
        Set<Integer> before = new HashSet<>(w.known.get(who));
        w.known.get(who).add(fact);
        follow(w.known.get(who));
        w.told.add(fact);
        for (int f : w.known.get(who)) {
            if (!before.contains(f)) {
                w.source.put(List.of(who, f), i);
                for (Debt d : w.debts) {
                    if (d.to == who && d.fact == f) {
                        d.found = true;
                        d.now = up(d.now * settings[4], 10);
                    }
                }
            }
        }
    }

    static int bits(Set<Integer> set) {
        int all = 0;
        for (int i : set) {
            all += 1 << i;
        }
        return all;
    }

    /** How many, HURT, then the FACT (99: none) of each of the first 8 open DEBTS. */
    int[] feast(World w) {
        List<Debt> open = w.debts.stream().filter(d -> d.now > 0).limit(8).toList();
        int[] pick = new int[open.size()];
        List<int[]> best = new ArrayList<>();
        feast(w, open, 0, pick, best);
        return best.get(0);
    }

    private void feast(World w, List<Debt> open, int k, int[] pick, List<int[]> best) {
        if (k == open.size()) {
            int[] all = new int[2 + k];
            for (int i = 0; i < k; i++) {
                all[2 + i] = pick[i];
                all[0] += pick[i] < 99 ? 1 : 0;
                all[1] += pick[i] < 99 ? facts.get(pick[i]).hurt : 0;
            }
            if (best.isEmpty() || all[0] > best.get(0)[0]
                || all[0] == best.get(0)[0] && Arrays.compare(all, 1, 2 + k, best.get(0), 1, 2 + k) < 0) {
                best.clear();
                best.add(all);
            }
            return;
        }
        Debt d = open.get(k);
        for (int f = 0; f < facts.size(); f++) {
            int fact = f;
            boolean free = true;
            for (int i = 0; i < k; i++) {
                free &= pick[i] != f;
            }
            if (free && w.known.get(d.who).contains(f) && w.worth(d.who, f) >= d.now
                && w.known.stream().anyMatch(s -> !s.contains(fact))) {
                pick[k] = f;
                feast(w, open, k + 1, pick, best);
            }
        }
        pick[k] = 99;
        feast(w, open, k + 1, pick, best);
    }

    private boolean pays(List<Integer> dues, List<Integer> values, Set<Integer> used) {
        if (dues.isEmpty()) {
            return true;
        }
        for (int i = 0; i < values.size(); i++) {
            if (values.get(i) >= dues.get(0) && used.add(i)) {
                if (pays(dues.subList(1, dues.size()), values, used)) {
                    return true;
                }
                used.remove(i);
            }
        }
        return false;
    }

    /** The set for NEEDS or BUYS with its COINS: {COINS, bits}; null: none. */
    int[] wants(World w, int who, boolean buying) {
        List<Integer> dues = w.debts.stream().filter(d -> d.who == who && d.now > 0).map(d -> d.now).toList();
        int[] best = null;
        for (int set = 0; set < 1 << facts.size(); set++) {
            int[] got = wanted(w, who, buying, set, dues);
            if (got != null && (best == null || got[0] < best[0]
                || got[0] == best[0] && Integer.bitCount(got[1]) < Integer.bitCount(best[1]))) {
                best = got;
            }
        }
        return best;
    }

    private int[] wanted(World w, int who, boolean buying, int set, List<Integer> dues) {
        List<Integer> values = new ArrayList<>();
        int coins = 0;
        for (int f = 0; f < facts.size(); f++) {
            boolean his = w.known.get(who).contains(f);
            boolean in = (set >> f & 1) != 0;
            if (his && in) {
                return null;
            }
            if (his) {
                values.add(w.worth(who, f));
            } else if (in) {
                values.add(facts.get(f).length * settings[1] / 10);
                int least = 1000;
                for (int p = 0; p < people.size(); p++) {
                    if (p != who && w.known.get(p).contains(f) && asks.containsKey(List.of(p, f))) {
                        least = Math.min(least, asks.get(List.of(p, f)));
                    }
                }
                if (buying && least == 1000) {
                    return null;
                }
                coins += buying ? least : 0;
            }
        }
        return values.size() >= dues.size() && pays(dues, values, new HashSet<>()) ? new int[] {coins, set} : null;
    }

    /** What is OWED, how many are WRONG, then the tellings in their order. */
    int[] order(List<int[]> tellings) {
        List<int[]> best = new ArrayList<>();
        order(tellings, new ArrayList<>(), best);
        return best.get(0);
    }

    private void order(List<int[]> tellings, List<Integer> turns, List<int[]> best) {
        int n = tellings.size();
        if (turns.size() == n) {
            List<Line> lines = new ArrayList<>(book);
            int[] got = new int[2 + n];
            for (int i = 0; i < n; i++) {
                int[] t = tellings.get(turns.get(i));
                got[2 + i] = turns.get(i);
                lines.add(new Line(3, t[0], t[1], t[2], List.of(), 0, 0));
            }
            World w = judge(lines);
            got[0] = w.owed();
            got[1] = (int) w.why.subList(book.size(), lines.size()).stream().filter(y -> y != 0).count();
            if (best.isEmpty() || Arrays.compare(got, best.get(0)) < 0) {
                best.clear();
                best.add(got);
            }
            return;
        }
        for (int i = 0; i < n; i++) {
            if (!turns.contains(i)) {
                turns.add(i);
                order(tellings, turns, best);
                turns.remove(turns.size() - 1);
            }
        }
    }

    /** A sale for nothing behind the BOOK pays nothing and HURTS nobody: so it shows what follows if one tells. */
    int ripple(int a, int b, int f, int what) {
        World before = judge(book);
        if (a < 0 || a >= people.size() || b < 0 || b >= people.size() || f < 0 || f >= facts.size()
            || what < 0 || what > 2 || !before.known.get(a).contains(f) || before.known.get(b).contains(f)) {
            return -1;
        }
        List<Line> lines = new ArrayList<>(book);
        lines.add(new Line(4, a, b, f, List.of(), 0, 0));
        World after = judge(lines);
        if (what == 2) {
            return after.owed();
        }
        int found = 0;
        for (int d = 0; d < after.debts.size(); d++) {
            found += after.debts.get(d).found && !before.debts.get(d).found && before.debts.get(d).now > 0 ? 1 : 0;
        }
        return what == 1 ? found : bits(after.known.get(b)) - bits(before.known.get(b));
    }

    private List<Token> said;
    private int next;
    private int read;

    /** Takes the SENTENCE, or leaves the old one. */
    void readSentence(String text) {
        said = tokens(text, 200);
        next = 0;
        read = 0;
        BiPredicate<World, Integer> all = joined("or", 1);
        must(said.get(next).sort == '$', 1, said.get(next));
        sentence = all;
        ones = read;
    }

    private BiPredicate<World, Integer> joined(String word, int depth) {
        BiPredicate<World, Integer> all = word.equals("or") ? joined("and", depth) : one(depth);
        while (said.get(next).text.equals(word)) {
            next++;
            BiPredicate<World, Integer> more = word.equals("or") ? joined("and", depth) : one(depth);
            all = word.equals("or") ? all.or(more) : all.and(more);
        }
        return all;
    }

    private BiPredicate<World, Integer> one(int depth) {
        Token t = said.get(next++);
        must(List.of("not", "(", "has", "late", "owes", "debts", "paid", "hurt", "coins").contains(t.text), 1, t);
        must(++read <= 20 && depth <= 8, 4, t);
        switch (t.text) {
            case "not":
                return one(depth + 1).negate();
            case "(":
                BiPredicate<World, Integer> in = joined("or", depth + 1);
                must(said.get(next).text.equals(")"), 1, said.get(next));
                next++;
                return in;
            case "has":
                int f = named(said.get(next++), "fact");
                return (w, p) -> w.known.get(p).contains(f);
            case "late":
                return (w, p) -> w.debts.stream().anyMatch(d -> d.who == p && w.late(d));
            default:
                Token sign = said.get(next++);
                must(sign.text.matches("[<=>]"), 1, sign);
                int n = number(said.get(next++), "0-999");
                return (w, p) -> compared(came(w, p, t.text), sign.text, n);
        }
    }

    private static boolean compared(int sum, String sign, int n) {
        return sign.equals("<") ? sum < n : sign.equals(">") ? sum > n : sum == n;
    }

    static int came(World w, int who, String what) {
        return switch (what) {
            case "owes" -> w.debts.stream().filter(d -> d.who == who).mapToInt(d -> d.now).sum();
            case "debts" -> (int) w.debts.stream().filter(d -> d.who == who).count();
            case "paid" -> (int) w.debts.stream().filter(d -> d.who == who && d.paidBy >= 0).count();
            case "hurt" -> w.hurt[who];
            default -> w.coins[who];
        };
    }
}
