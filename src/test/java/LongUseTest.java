import com.sun.management.ThreadMXBean;
import java.lang.management.ManagementFactory;
import java.util.Random;

/** An object is used for 512 calls: the last is answered as well as the first, none throws, and the room is kept. */
public final class LongUseTest extends Edges {
    private static final int CALLS = 512;
    private static final int[] NUMBERS = {LEAST, LEAST + 1, NOBODY, NOBODY + 4, -1, 0, 1, 2, 3, 4, 5, 6, 7, 8, 9, 10, 11,
        12, 13, 40, 41, 100, 1000000, 1000001, MOST - 1, MOST};
    private static final long[] LONGS = {Long.MIN_VALUE, -4294967296L, NONE, -1, 0, 1, 2, 127, 128, 32767, 32768, 1000000,
        1000001, 479001599L, 479001600L, 4294967296L, 4294967297L, Long.MAX_VALUE};

    /** Any call of the face, by its place there. */
    private static long call(PeckYard x, int which, int a, int b, long c) {
        switch (which) {
            case 0: return x.hen(a, b);
            case 1: return x.ask(a, b);
            case 2: return x.take(a, b);
            case 3: return x.pen(a, b);
            case 4: return x.peck(a, b, c);
            case 5: return x.leave(a);
            case 6: return x.about(a, b);
            case 7: return x.isOf(a, b);
            case 8: return x.pecks(a, b);
            case 9: return x.undo();
            case 10: return x.least();
            case 11: return x.many();
            case 12: return x.best(c);
            case 13: return x.number();
            case 14: return x.sure(a, b);
            case 15: return x.why();
            case 16: return x.begin();
            case 17: return x.stand(a);
            case 18: return x.order(a);
            case 19: return x.move(a, b);
            case 20: return x.weight();
            case 21: return x.fault();
            case 22: return x.better(a);
            case 23: return x.turn();
            case 24: return x.groups();
            case 25: return x.groupOf(a);
            case 26: return x.loose();
            case 27: return x.pack();
            case 28: return x.ring(a, b);
            default: return x.count(a);
        }
    }

    /** All hens with all pecks of the most weight: 24 + 132 calls. */
    private static PeckYard heaviest() {
        PeckYard x = hens(12);
        for (int hen = 0; hen < 12; hen++) {
            x.pen(hen, 3);
            for (int other = 0; other < 12; other++) {
                if (other != hen) {
                    x.peck(hen, other, 1000000);
                }
            }
        }
        return x;
    }

    private static void tillTheLast() {
        sentence("What it is", "at most 512 calls: each of 12 hens' changes is answered for till the last", () -> {
            PeckYard x = heaviest();
            long was = 1000000;
            for (int made = 156; made + 4 <= CALLS; made += 4) {
                long weight = 7L * made;
                due("peck", x.peck(11, 10, weight), was);
                due("least()", x.least(), 65000000L + weight);
                due("many()", x.many(), 239500800L);
                due("sure(10, 11)", x.sure(10, 11), 1);
                was = weight;
            }
        });
        sentence("What it is", "at most 512 calls: 512 changes, of which 8 are kept", () -> {
            PeckYard x = hens(2);
            x.pen(0, 1);
            for (int made = 3; made < CALLS - 10; made++) {
                due("peck", x.peck(0, 1, made), made == 3 ? 0 : made - 1);
            }
            for (int kept = 7; kept >= 0; kept--) {
                due("undo()", x.undo(), kept);
            }
            due("pecks(0, 1)", x.pecks(0, 1), CALLS - 11 - 8);
            due("undo(), the 512th", x.undo(), NO);
        });
        sentence("What it is", "at most 512 calls: hens come and are taken back", () -> {
            PeckYard x = hens(4);
            for (int made = 4; made + 4 <= CALLS; made += 4) {
                due("hen", x.hen(GUEST, NOBODY), 4);
                due("count(1)", x.count(1), 4);
                due("undo()", x.undo(), 4);
                due("count(0)", x.count(0), 4);
            }
        });
        sentence("What it is", "at most 512 calls: the order in hand is moved round and round", () -> {
            PeckYard x = standing(hens(12), 0, 1, 2, 3, 4, 5, 6, 7, 8, 9, 10, 11);
            for (int n = 1; 25 + 2 * n <= CALLS; n++) {
                due("move(0, 11)", x.move(0, 11), 0);
                due("order(0)", x.order(0), n % 12);
            }
        });
        sentence("What it is", "at most 512 calls: rings are packed again and again", () -> {
            PeckYard x = heaviest();
            for (int made = 156; made + 3 <= CALLS; made += 3) {
                due("peck", x.peck(0, 1, made) >= 0 ? 1 : 0, 1);
                due("pack()", x.pack(), 65000000L + made);
                due("ring(0, 0)", x.ring(0, 0), made);
            }
        });
    }

    private static int oneOf(int[] row, Random chance) {
        return row[chance.nextInt(row.length)];
    }

    /** The answers to a run of 512 calls by chance, rolled into one number. */
    private static long rolledRun(long seed, boolean isWild) {
        Random chance = new Random(seed);
        PeckYard x = new PeckYard();
        long rolled = 0;
        for (int n = 0; n < CALLS; n++) {
            int which = n < 30 ? chance.nextInt(5) : chance.nextInt(30);
            int a = isWild || chance.nextInt(9) == 0 ? oneOf(NUMBERS, chance) : chance.nextInt(12);
            int b = isWild || chance.nextInt(9) == 0 ? oneOf(NUMBERS, chance) : chance.nextInt(5);
            long c = chance.nextInt(3) == 0 ? LONGS[chance.nextInt(LONGS.length)] : chance.nextInt(5);
            long answer = call(x, which, a, b, c);
            boolean isKnown = answer >= 0 || answer == BAD || answer == NO || answer == FULL || answer == NONE;
            due("call " + which + "(" + a + ", " + b + ", " + c + ") answers a number or a refusal", isKnown ? 1 : 0, 1);
            rolled = rolled * 31 + answer;
        }
        return rolled;
    }

    private static void wildCalls() {
        sentence("LANGUAGE 7", "No call may ever throw or fail to end, for any arguments in any state", () -> {
            for (int seed = 0; seed < 600; seed++) {
                rolledRun(seed, seed % 3 == 0);
            }
        });
        sentence("LANGUAGE 7", "for any arguments: each call with each pair of wild numbers", () -> {
            for (int which = 0; which < 30; which++) {
                for (int a : NUMBERS) {
                    PeckYard x = standing(pecking(asked(HEN, 1, PAIR, 0, GUEST, 1), 0, 1, 5, 1, 0, 3), 1, 0);
                    x.pack();
                    for (int b : NUMBERS) {
                        for (int c = 0; c < (which == 4 || which == 12 ? LONGS.length : 1); c++) {
                            call(x, which, a, b, LONGS[c]);
                        }
                    }
                }
            }
        });
        sentence("LANGUAGE 13", "the same calls always give the same answers", () -> {
            for (int seed = 0; seed < 100; seed++) {
                due("run " + seed, rolledRun(seed, false), rolledRun(seed, false));
            }
        });
    }

    /**
     * An object or array has 16 bytes at least, an element or field one at least: so a run that stays
     * under 1000000 bytes stays under 62500 objects and 1000000 elements.
     */
    private static void room() {
        sentence("The room", "600,000 objects and arrays, 7.3 million fields and elements in all", () -> {
            if (ManagementFactory.getThreadMXBean() instanceof ThreadMXBean meter && meter.isThreadAllocatedMemorySupported()) {
                long before = meter.getCurrentThreadAllocatedBytes();
                dearRun();
                long used = meter.getCurrentThreadAllocatedBytes() - before;
                due("whether bytes of the dearest run are below 1000000: they are " + used, used < 1000000 ? 1 : 0, 1);
            } else {
                System.out.println("the room is not measured: this Java machine does not tell it");
            }
        });
    }

    /** Hens come one by one, so that each table by sets grows as often as it can; then change by change. */
    private static void dearRun() {
        PeckYard x = new PeckYard();
        for (int hen = 0; hen < 12; hen++) {
            x.hen(HEN, NOBODY);
            x.pen(hen, 3);
            x.peck(hen, (hen + 1) % 12, 5);
            allDear(x);
        }
        for (int made = 108; made + 8 <= CALLS; made += 8) {
            x.peck(0, 2, made);
            x.take(0, 1);
            allDear(x);
        }
    }

    private static void allDear(PeckYard x) {
        x.best(0);
        x.sure(0, 1);
        x.loose();
        x.better(40);
        x.groups();
        x.pack();
    }

    public static void main(String[] args) {
        tillTheLast();
        wildCalls();
        room();
        finish();
    }
}
