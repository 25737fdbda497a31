import java.io.IOException;
import java.nio.file.Files;
import java.nio.file.Path;

/**
 * The sentences of the document that name boundary cases: each is quoted with the promises that it is for, and behind it stand
 * the answers that are due by it. A quotation that is not in the document, or has no answers behind it, is an error.
 */
final class Edges {
    private static final int PROMISES = 37;

    private final Check check = new Check("EdgeTest");
    private final String document;
    private final boolean[] quoted;
    private final boolean[] promised = new boolean[PROMISES + 1];
    private String about = "";
    private int answers = 1;

    Edges() throws IOException {
        Path path = Path.of(System.getProperty("doc", "../shared/DOC.md"));
        document = Files.exists(path) ? Files.readString(path).replaceAll("\\s+", " ") : "";
        quoted = new boolean[document.length()];
    }

    /** What follows is due by this sentence, for these promises. */
    void about(String sentence, int... promises) {
        check.yes("answers behind " + about, answers > 0);
        answers = 0;
        StringBuilder label = new StringBuilder("promise");
        for (int n : promises) {
            promised[n] = true;
            label.append(' ').append(n);
        }
        about = label.append(", '").append(sentence).append("': ").toString();
        check.yes(about + "stands in the document", document.isEmpty() || quote(sentence, promises));
    }

    /** A sentence stands in the terms, for all promises that use them, or in one promise: there it is marked. */
    private boolean quote(String sentence, int[] promises) {
        boolean there = mark(sentence, document.indexOf("## What it is"), document.indexOf("## Promise 1:"));
        for (int n : promises) {
            int end = document.indexOf("## Promise " + (n + 1) + ":");
            there |= mark(sentence, document.indexOf("## Promise " + n + ":"), end < 0 ? document.indexOf("## Not promised") : end);
        }
        return there;
    }

    private boolean mark(String sentence, int from, int to) {
        int at = document.indexOf(sentence, from);
        if (at < 0 || at + sentence.length() > to) {
            return false;
        }
        for (int i = at; i < at + sentence.length(); i++) {
            quoted[i] = true;
        }
        return true;
    }

    void due(String what, long want, long got) {
        answers++;
        check.due(about + what, want, got);
    }

    void yes(String what, boolean got) {
        due(what, 1, got ? 1 : 0);
    }

    void no(String what, boolean got) {
        due(what, 0, got ? 1 : 0);
    }

    void missing(String what, Check.Call call) {
        answers++;
        check.missing(about + what, call);
    }

    /** All answers of a row, in their order. */
    void all(String what, int[] want, int... got) {
        due(what + ", how many", want.length, got.length);
        for (int i = 0; i < want.length && i < got.length; i++) {
            due(what + ", " + i, want[i], got[i]);
        }
    }

    /** A text is refused: this kind of FAULT at this place, and the tape is empty. */
    void fault(String text, int kind, int place, int answered, TruthCord x) {
        answers++;
        check.fault(about + "'" + text + "'", kind, place, answered, x);
    }

    void valleyTaken(String text, int lines) {
        TruthCord x = new TruthCord();
        due("valley '" + text + "'", lines, Check.valley(x, text));
        due("valley '" + text + "', its fault", 0, x.fault());
    }

    void valleyRefused(String text, int kind, int place) {
        TruthCord x = new TruthCord();
        fault(text, kind, place, Check.valley(x, text), x);
    }

    void bookTaken(String valley, String text, int lines) {
        TruthCord x = Check.with(valley, "");
        due("book '" + text + "'", lines, Check.book(x, text));
        due("book '" + text + "', its fault", 0, x.fault());
    }

    void bookRefused(String valley, String text, int kind, int place) {
        TruthCord x = Check.with(valley, "");
        fault(text, kind, place, Check.book(x, text), x);
    }

    void sentenceTaken(String valley, String text, int ones) {
        TruthCord x = Check.with(valley, "");
        due("sentence '" + text + "'", ones, Check.sentence(x, text));
        due("sentence '" + text + "', its fault", 0, x.fault());
    }

    void sentenceRefused(String valley, String text, int kind, int place) {
        TruthCord x = Check.with(valley, "");
        fault(text, kind, place, Check.sentence(x, text), x);
    }

    void finish() {
        check.yes("answers behind " + about, answers > 0);
        about = "";
        for (int n = 1; n <= PROMISES; n++) {
            yes("promise " + n + " has a sentence", promised[n]);
        }
        if (Boolean.getBoolean("unquoted")) {
            tellUnquoted();
        }
        check.finish();
    }

    /** For whoever adds to these tests: what is quoted by none. */
    private void tellUnquoted() {
        StringBuilder run = new StringBuilder();
        for (int i = document.indexOf("## What it is"); i < document.indexOf("## Not promised"); i++) {
            if (!quoted[i]) {
                run.append(document.charAt(i));
            }
            if (quoted[i] && run.length() > 0 || i + 1 == document.indexOf("## Not promised")) {
                if (run.toString().matches(".*[A-Za-z]{2}.*")) {
                    System.out.println("not quoted: " + run.toString().trim());
                }
                run.setLength(0);
            }
        }
    }
}
