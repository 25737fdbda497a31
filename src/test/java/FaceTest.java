import java.io.IOException;
import java.lang.reflect.Constructor;
import java.lang.reflect.Field;
import java.lang.reflect.Method;
import java.lang.reflect.Modifier;
import java.nio.file.Files;
import java.nio.file.Path;
import java.util.Arrays;
import java.util.HashSet;
import java.util.Set;
import java.util.TreeSet;
import java.util.regex.Matcher;
import java.util.regex.Pattern;

/** The public face is the document's, and the file keeps to the rules of LANGUAGE.md that can be seen from outside. */
final class FaceTest {
    private static final Check CHECK = new Check("FaceTest");
    private static final String FACE = "int feed(int,int,int,int,int)|boolean end(int)|int valley()|int fault()|int fact(int,int)!|"
        + "int knows(int,int)|int book()|int drawn(int,int)|int line(int,int)!|int wrong(int)|int debts()|int debt(int,int)!|"
        + "int worth(int,int)|int came(int,int)!|int autumn(int)|int feast(int)|int feastAt(int)|int needs(int,int)|int buys(int,int)|"
        + "int terms(int)|int source(int,int)|int led(int,int)|int order()|int orderAt(int)|int ripple(int,int,int,int)|int unsaid(int)|"
        + "int cord(int,int)|int read()|int near(int)|int measured(int,int)|int slips(int,int,int)|int sentence()|int said()|"
        + "boolean image(int)|boolean restore(int)|int count(int)";
    private static final String LIBRARY = "import java.util.Arrays;|import java.util.NoSuchElementException;";

    public static void main(String[] args) throws IOException {
        face();
        inside();
        text(Files.readString(Path.of(System.getProperty("source", "src/main/java/TruthCord.java"))));
        CHECK.finish();
    }

    private static String told(Method m) {
        StringBuilder all = new StringBuilder(m.getReturnType() + " " + m.getName() + "(");
        for (Class<?> c : m.getParameterTypes()) {
            all.append(all.charAt(all.length() - 1) == '(' ? "" : ",").append(c);
        }
        boolean throwing = Arrays.toString(m.getExceptionTypes()).equals("[class java.util.NoSuchElementException]");
        return all.append(")").append(throwing ? "!" : "").toString();
    }

    private static void face() {
        Set<String> want = new TreeSet<>(Arrays.asList(FACE.split("\\|")));
        Set<String> got = new TreeSet<>();
        for (Method m : TruthCord.class.getDeclaredMethods()) {
            if (!Modifier.isPrivate(m.getModifiers())) {
                CHECK.yes(m + " is public and no static one", Modifier.toString(m.getModifiers()).equals("public"));
                got.add(told(m));
            }
        }
        CHECK.due("the methods of the face", 36, got.size());
        CHECK.yes("the face is " + got, want.equals(got));
        for (Field f : TruthCord.class.getDeclaredFields()) {
            boolean open = !Modifier.isPrivate(f.getModifiers());
            CHECK.yes(f + " is private or NONE", !open || f.getName().equals("NONE") && Modifier.toString(f.getModifiers()).equals("public static final"));
        }
        Constructor<?>[] made = TruthCord.class.getDeclaredConstructors();
        CHECK.yes("one constructor", made.length == 1 && made[0].getParameterCount() == 0 && Modifier.isPublic(made[0].getModifiers()));
        CHECK.yes("public and final", Modifier.toString(TruthCord.class.getModifiers()).equals("public final"));
    }

    private static void inside() {
        Set<String> faceNames = new HashSet<>();
        for (String m : FACE.split("\\|")) {
            faceNames.add(m.substring(m.indexOf(' ') + 1, m.indexOf('(')));
        }
        Class<?>[] classes = TruthCord.class.getDeclaredClasses();
        CHECK.yes("rule 11: some twelve classes", classes.length + 1 <= 12);
        for (Class<?> c : classes) {
            CHECK.yes("rule 1: " + c + " is private and static", Modifier.isPrivate(c.getModifiers()) && Modifier.isStatic(c.getModifiers()));
            int fields = 0;
            for (Field f : c.getDeclaredFields()) {
                boolean fixed = Modifier.isStatic(f.getModifiers());
                fields += fixed ? 0 : 1;
                CHECK.yes("rule 5: " + f + " is final if it is static", !fixed || Modifier.isFinal(f.getModifiers()));
            }
            CHECK.yes("rule 11: the fields of " + c, fields <= 20);
            for (Method m : c.getDeclaredMethods()) {
                CHECK.no("rule 1: " + m + " bears a name of the face", faceNames.contains(m.getName()));
                CHECK.yes("rule 11: parameters of " + m, m.getParameterCount() <= 7);
            }
        }
        for (Method m : TruthCord.class.getDeclaredMethods()) {
            CHECK.no("rule 1: " + m, Modifier.isPrivate(m.getModifiers()) && faceNames.contains(m.getName()));
        }
    }

    private static void text(String source) {
        CHECK.no("no package", source.startsWith("package"));
        Matcher imports = Pattern.compile("(?m)^import .*$").matcher(source);
        while (imports.find()) {
            CHECK.yes("rule 4: " + imports.group(), Arrays.asList(LIBRARY.split("\\|")).contains(imports.group()));
        }
        String code = source.replaceAll("(?s)/\\*.*?\\*/", "").replaceAll("//[^\n]*", "");
        String[] never = {"->", "::", "\\btry\\b", "\\bcatch\\b", "\\bfinally\\b", "\\bsynchronized\\b", "\\bassert\\b", "\\bstatic \\{",
            "\\bvar\\b", "\\binstanceof\\b", "\\bhashCode\\b", "\\btoString\\b", "Exact\\b", "\\bdouble\\b", "\\bfloat\\b", "\\bMAX_VALUE\\b",
            "\"\\s*\\+", "\\+\\s*\""};
        for (String pattern : never) {
            CHECK.no("rules 2 to 6: " + pattern, Pattern.compile(pattern).matcher(code).find());
        }
        Matcher calls = Pattern.compile("\\b(System|Arrays|Math|Integer|Long|String)\\.(\\w+)").matcher(code);
        Set<String> listed = Set.of("System.arraycopy", "Arrays.fill", "Math.min", "Math.max", "Integer.bitCount");
        while (calls.find()) {
            CHECK.yes("rule 4: " + calls.group(), listed.contains(calls.group()));
        }
        Matcher thrown = Pattern.compile("throw [^;]*;").matcher(code);
        while (thrown.find()) {
            CHECK.yes("rule 6: " + thrown.group(), thrown.group().equals("throw new NoSuchElementException();"));
        }
        methods(code);
    }

    /** A method begins at four or eight blanks and ends at the same with a bracket. */
    private static void methods(String code) {
        String[] lines = code.split("\n");
        int begun = -1;
        for (int i = 0; i < lines.length; i++) {
            if (lines[i].matches("( {4}| {8})[a-z].*\\) (throws \\w+ )?\\{")) {
                begun = i;
            } else if (begun >= 0 && lines[i].matches(" {4}\\}| {8}\\}")) {
                CHECK.yes("rule 11: short: " + lines[begun], i - begun <= 60);
                begun = -1;
            }
        }
    }
}
