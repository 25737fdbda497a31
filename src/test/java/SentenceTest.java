/** Promises 33 (sentence) and 34 (said). */
final class SentenceTest {
    private static final Check CHECK = new Check("SentenceTest");
    private static final String VALLEY = "who a;who b;who c;who d;fact f 10 5 a;fact g 7 3 b;fact h 20 9 d;"
        + "knows a f;knows b f;knows c f;knows a g;knows a h;knows b h;";
    /** At the end: a OWES 8 of 2, 1 paid; b paid 1 LATE, HURT 6, COINS 12; c OWES 8 of 1, LATE; d HURT 9, COINS -12. */
    private static final String BOOK = "a lies d f with c with b;a hides c g;day 3;a tells c g;c tells d g;b sells d f 12;"
        + "d lies a g;d hides c h;day 40;b tells d h;";

    public static void main(String[] args) {
        taken();
        faults();
        limits();
        itStays();
        said();
        CHECK.finish();
    }

    private static void taken(String text, int ones) {
        TruthCord x = Check.with(VALLEY, BOOK);
        CHECK.due("33 sentence '" + text + "'", ones, Check.sentence(x, text));
        CHECK.due("33 its fault", 0, x.fault());
        CHECK.due("33 the tape then", 0, x.count(9));
    }

    private static void refused(String text, int kind, int place) {
        TruthCord x = Check.with(VALLEY, BOOK);
        CHECK.fault("33 sentence '" + text + "'", kind, place, Check.sentence(x, text), x);
    }

    private static void taken() {
        taken("late", 1);
        taken(" late\n", 1);
        taken("(late)", 2);
        taken("not late", 2);
        taken("not(late or has f)and owes>0", 5);
        taken("has f and has g or has h", 3);
        taken("owes<0 or debts=1 or paid>999 or hurt=000 or coins<5", 5);
        taken("late" + Check.times(" ", 196), 1);
    }

    private static void faults() {
        refused("", 1, 0);
        refused("   ", 1, 3);
        refused("and", 1, 0);
        refused("late late", 1, 5);
        refused("late;", 1, 4);
        refused("late)", 1, 4);
        refused("(late", 1, 5);
        refused("()", 1, 1);
        refused("(late or)", 1, 8);
        refused("late and", 1, 8);
        refused("late or or late", 1, 8);
        refused("not", 1, 3);
        refused("not and", 1, 4);
        refused("has", 1, 3);
        refused("has z", 3, 4);
        refused("has a", 3, 4);
        refused("has late", 1, 4);
        refused("has 5", 1, 4);
        refused("f", 1, 0);
        refused("owes", 1, 4);
        refused("owes 5", 1, 5);
        refused("owes ;", 1, 5);
        refused("owes ( 5", 1, 5);
        refused("owes <", 1, 6);
        refused("owes < f", 1, 7);
        refused("owes < = 5", 1, 7);
        refused("owes < 1000", 1, 7);
        refused("owes < 5 5", 1, 9);
        refused("lies", 1, 0);
        refused("who", 1, 0);
        refused("Late", 1, 0);
        refused("late.", 1, 4);
        refused("late" + Check.times(" ", 197), 1, 200);
        refused(Check.times(" ", 199) + "late", 1, 200);
        refused(Check.times(" ", 195) + "has zz", 3, 199);
        refused(Check.times(" ", 195) + "has gz", 3, 199);
        refused(Check.times(" ", 196) + "has f", 1, 200);
        refused("zzz" + Check.times(" ", 300), 1, 0);
        refused("late" + Check.times(" ", 930), 1, 200);
    }

    private static void limits() {
        String nineteen = "late" + Check.times(" or late", 18);
        taken(nineteen, 19);
        taken(nineteen + " or late", 20);
        refused(nineteen + " or late or late", 4, nineteen.length() + 12);
        refused(nineteen + " or not late", 4, nineteen.length() + 8);
        refused(nineteen + " or (late)", 4, nineteen.length() + 5);
        refused(nineteen + " or late or f", 1, nineteen.length() + 12);
        taken(Check.times("(", 7) + "late" + Check.times(")", 7), 8);
        refused(Check.times("(", 8) + "late" + Check.times(")", 8), 4, 8);
        refused(Check.times("(", 9), 4, 8);
        refused(Check.times("(", 8) + ")", 1, 8);
        taken(Check.times("not ", 7) + "late", 8);
        refused(Check.times("not ", 8) + "late", 4, 32);
        refused(Check.times("not ", 8) + "and", 1, 32);
        taken("(not (not (not not late)))and(not (not (not not late)))", 16);
        refused("(not (not (not(not late))))", 4, 19);
        refused("(not (not (not((not late)))))", 4, 16);
        taken("late or (late or (late or (late or (late or (late or (late or (late)))))))", 15);
        refused("late or (late or (late or (late or (late or (late or (late or (late or (late))))))))", 4, 72);
    }

    private static void itStays() {
        TruthCord x = Check.with(VALLEY, BOOK);
        CHECK.due("34 there is no SENTENCE", TruthCord.NONE, x.said());
        CHECK.fault("33 a fault", 1, 0, Check.sentence(x, ""), x);
        CHECK.due("34 there is none", TruthCord.NONE, x.said());
        Check.sentence(x, "has h");
        CHECK.due("34 has h", 1 + 2 + 8, x.said());
        CHECK.due("33 a fault", -10, Check.sentence(x, "late and z"));
        CHECK.due("33 it stays", 1 + 2 + 8, x.said());
        Check.book(x, "");
        CHECK.due("34 it is said behind the BOOK of now", 3, x.said());
        x.drawn(60, 5);
        int has = 0;
        for (int who = 0; who < 4; who++) {
            has |= (x.knows(who, 1) >> 2 & 1) << who;
        }
        CHECK.due("34 behind a drawn one", has, x.said());
        Check.valley(x, VALLEY);
        CHECK.due("34 a new VALLEY has none", TruthCord.NONE, x.said());
    }

    private static void said() {
        TruthCord x = Check.with(VALLEY, BOOK);
        Object[][] all = {{"late", 7}, {"not late", 8}, {"has f", 15}, {"has g", 13}, {"not has g", 2}, {"owes > 7", 5}, {"owes > 8", 0},
            {"owes = 8", 5}, {"owes < 8", 10}, {"debts = 0", 8}, {"debts = 1", 6}, {"debts > 1", 1}, {"paid = 1", 3}, {"paid < 1", 12},
            {"hurt = 6", 2}, {"hurt > 6", 8}, {"hurt = 0", 5}, {"coins < 0", 8}, {"coins = 0", 5}, {"coins > 11", 2}, {"coins > 12", 0},
            {"late or has g and coins < 0", 15}, {"(late or has g) and coins < 0", 8}, {"has g and coins < 0 or late", 15},
            {"not late or late", 15}, {"not (late or late)", 8}, {"not not late", 7}, {"late and not owes = 8", 2},
            {"not late and not late", 8}, {"paid = 1 and debts = 1 or hurt = 9 and coins < 0 or owes > 99", 10}};
        for (Object[] pair : all) {
            CHECK.yes("33 " + pair[0], Check.sentence(x, (String) pair[0]) > 0);
            CHECK.due("34 " + pair[0], (Integer) pair[1], x.said());
        }
        TruthCord y = new TruthCord();
        Check.sentence(y, "not late");
        CHECK.due("34 of nobody", 0, y.said());
    }
}
