import java.lang.management.ManagementFactory;
import java.util.NoSuchElementException;
import java.util.Random;

/** Rules 6, 7 and 12: for any arguments in any state nothing but what the document names is thrown, and little is made. */
final class RoomTest {
    private static final Check CHECK = new Check("RoomTest");
    private static final String[] TEXTS = {
        "who a;who b;who c;fact f 10 5 a;fact g 20 7 c;fact h 8 0 b;knows a f;knows a g;knows b h;since f h g;asks a f 3;moon 10;",
        "who a;who b;who c;who d;who e;who x;who y;who z;fact f 9 5 a;fact g 9 7 c;fact h 9 0 b;knows a f;knows b f;knows c f;knows d f;"
            + "knows e f;knows x f;knows y f;knows a g;knows b h;",
        "day 1;a lies c f;a hides b g;b lies c h with a;day 5;a tells b g;day 20;a tells c f;b sells a h 4;a tells b f;",
        "a lies z f with y with x with e with d with c with b;".repeat(16), "a hides b g;".repeat(60),
        "owes > 10 and late or has h and not coins < 0", "not (late or has f) and debts > 0", ""};

    private final Random dice;
    private final TruthCord x = new TruthCord();

    private RoomTest(long seed) {
        dice = new Random(seed);
    }

    public static void main(String[] args) {
        for (int seed = 0; seed < 3000; seed++) {
            new RoomTest(seed).run();
        }
        little();
        CHECK.finish();
    }

    private int any() {
        switch (dice.nextInt(12)) {
            case 0: return dice.nextInt();
            case 1: return Integer.MIN_VALUE + dice.nextInt(2);
            case 2: return Integer.MAX_VALUE - dice.nextInt(2);
            case 3: return dice.nextInt(1200) - 100;
            default: return dice.nextInt(13) - 1;
        }
    }

    private void run() {
        for (int i = 0; i < 400; i++) {
            int call = dice.nextInt(38);
            try {
                call(call);
            } catch (NoSuchElementException e) {
                CHECK.yes("call " + call + " may throw it", call == 4 || call == 8 || call == 11 || call == 13);
            } catch (RuntimeException e) {
                CHECK.due("call " + call + " threw " + e, 0, 1);
            }
        }
        CHECK.yes("all calls ended", true);
    }

    private int call(int which) {
        switch (which) {
            case 0: return x.feed(any(), any(), any(), any(), any());
            case 1: return x.end(any()) ? 1 : 0;
            case 2: return x.valley();
            case 3: return x.fault();
            case 4: return x.fact(any(), any());
            case 5: return x.knows(any(), any());
            case 6: return x.book();
            case 7: return x.drawn(any(), any());
            case 8: return x.line(any(), any());
            case 9: return x.wrong(any());
            case 10: return x.debts();
            case 11: return x.debt(any(), any());
            case 12: return x.worth(any(), any());
            case 13: return x.came(any(), any());
            case 14: return x.autumn(any());
            case 15: return x.feast(any());
            case 16: return x.feastAt(any());
            case 17: return x.needs(any(), any());
            case 18: return x.buys(any(), any());
            case 19: return x.terms(any());
            default: return callMore(which);
        }
    }

    private int callMore(int which) {
        switch (which) {
            case 20: return x.source(any(), any());
            case 21: return x.led(any(), any());
            case 22: return x.order();
            case 23: return x.orderAt(any());
            case 24: return x.ripple(any(), any(), any(), any());
            case 25: return x.unsaid(any());
            case 26: return x.cord(any(), any());
            case 27: return x.read();
            case 28: return x.near(any());
            case 29: return x.measured(any(), any());
            case 30: return x.slips(any(), any(), any());
            case 31: return x.sentence();
            case 32: return x.said();
            case 33: return x.image(any()) ? 1 : 0;
            case 34: return x.restore(any()) ? 1 : 0;
            case 35: return x.count(any());
            case 36: return text();
            default: return orderOfBytes();
        }
    }

    private int text() {
        String text = TEXTS[dice.nextInt(TEXTS.length)];
        Check.tape(x, text);
        switch (dice.nextInt(4)) {
            case 0: return x.book();
            case 1: return x.sentence();
            default: return x.valley();
        }
    }

    private int orderOfBytes() {
        int[] bytes = new int[dice.nextInt(17)];
        for (int i = 0; i < bytes.length; i++) {
            bytes[i] = dice.nextInt(4);
        }
        Check.tape(x, bytes);
        return dice.nextInt(3) > 0 ? x.order() : x.near(dice.nextInt(5) - 1);
    }

    /** Bytes that one object and 512 of the dearest calls make: the room has some 600,000 objects of 7.3 million fields. */
    private static void little() {
        com.sun.management.ThreadMXBean threads = (com.sun.management.ThreadMXBean) ManagementFactory.getThreadMXBean();
        long me = Thread.currentThread().getId();
        Check.with(TEXTS[1], TEXTS[3]);
        long before = threads.getThreadAllocatedBytes(me);
        TruthCord x = new TruthCord();
        long made = threads.getThreadAllocatedBytes(me) - before;
        CHECK.yes("a new object makes " + made + " bytes", made < 100_000);
        Check.valley(x, TEXTS[1]);
        Check.book(x, TEXTS[3]);
        Check.sentence(x, TEXTS[5]);
        before = threads.getThreadAllocatedBytes(me);
        for (int i = 0; i < 32; i++) {
            x.drawn(60, i);
            x.feast(0);
            x.needs(0, 0);
            x.buys(0, 0);
            x.feed(0x00010000, 0x02010300, 0x02000001, 0x01000101, 0);
            x.end(15);
            x.order();
            x.unsaid(3);
            x.ripple(0, 1, 0, 2);
            x.slips(37, 1000, i);
            x.said();
            x.image(0);
            x.restore(0);
            x.autumn(0);
            x.feed(0x61206c69, 0x65732062, 0x20663b00, 0, 0);
            x.end(11);
            x.book();
        }
        made = threads.getThreadAllocatedBytes(me) - before;
        CHECK.yes("512 calls make " + made + " bytes", made < 100_000);
    }
}
