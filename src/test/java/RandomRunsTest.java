import java.util.ArrayList;
import java.util.List;
import java.util.Random;

/** Runs of calls by chance (the same ones each time) on PeckYard and on SlowYard side by side. */
public final class RandomRunsTest {
    private static final int NONE = -2000000005;
    /** For so many calls an object is used; what comes after is free. */
    private static final int MOST_CALLS = 512;
    private static int wrong = 0;

    private final Random chance;
    private final PeckYard yard = new PeckYard();
    private final SlowYard slow = new SlowYard();
    private final List<String> told = new ArrayList<>();
    private int calls = 0;
    private final int mostHens;
    private final int mostCounting;

    private RandomRunsTest(long seed, int mostHens, int mostCounting) {
        chance = new Random(seed);
        this.mostHens = mostHens;
        this.mostCounting = mostCounting;
    }

    private boolean same(String call, long got, long want) {
        calls++;
        told.add(call + " -> " + got);
        if (got == want || calls > MOST_CALLS) {
            return true;
        }
        wrong++;
        if (wrong <= 5) {
            System.out.println(String.join("\n", told));
            System.out.println(call + " answered " + got + ", due is " + want);
        }
        return false;
    }

    /** Mostly a hen that there is, now and then a number that is none. */
    private int someHen() {
        int hens = (int) slow.count(0);
        return chance.nextInt(20) == 0 || hens == 0 ? chance.nextInt(16) - 2 : chance.nextInt(hens);
    }

    private int someAsks() {
        int roll = chance.nextInt(12);
        return roll == 0 ? NONE : roll == 1 ? chance.nextInt(16) - 2 : chance.nextInt(mostHens);
    }

    private int small(int below) {
        return chance.nextInt(below + 2) - 1;
    }

    private long someWeight() {
        long[] edges = {-1, 0, 127, 128, 32767, 32768, 1000000, 1000001, Long.MAX_VALUE, Long.MIN_VALUE};
        int roll = chance.nextInt(12);
        return roll == 0 ? edges[chance.nextInt(edges.length)] : roll < 4 ? chance.nextInt(100) : chance.nextInt(4);
    }

    private boolean change() {
        int a = someHen();
        switch (chance.nextInt(10)) {
            case 0: {
                int kind = small(5);
                int asks = someAsks();
                if (slow.count(0) >= mostHens && mostHens < 12) return true;
                return same("hen(" + kind + ", " + asks + ")", yard.hen(kind, asks), slow.hen(kind, asks));
            }
            case 1: {
                int asks = someAsks();
                return same("ask(" + a + ", " + asks + ")", yard.ask(a, asks), slow.ask(a, asks));
            }
            case 2: {
                int in = small(2);
                return same("take(" + a + ", " + in + ")", yard.take(a, in), slow.take(a, in));
            }
            case 3: {
                int width = small(4);
                return same("pen(" + a + ", " + width + ")", yard.pen(a, width), slow.pen(a, width));
            }
            case 4:
                if (chance.nextInt(3) > 0) return true;
                return same("leave(" + a + ")", yard.leave(a), slow.leave(a));
            case 5:
                return same("undo()", yard.undo(), slow.undo());
            default: {
                int other = chance.nextInt(15) == 0 ? chance.nextInt(16) - 2 : chance.nextInt(mostHens);
                long weight = someWeight();
                return same("peck(" + a + ", " + other + ", " + weight + ")",
                        yard.peck(a, other, weight), slow.peck(a, other, weight));
            }
        }
    }

    private boolean look() {
        int a = someHen();
        int b = someHen();
        switch (chance.nextInt(8)) {
            case 0: {
                int what = small(4);
                return same("about(" + a + ", " + what + ")", yard.about(a, what), slow.about(a, what));
            }
            case 1: {
                int kind = small(5);
                return same("isOf(" + a + ", " + kind + ")", yard.isOf(a, kind), slow.isOf(a, kind));
            }
            case 2:
                return same("pecks(" + a + ", " + b + ")", yard.pecks(a, b), slow.pecks(a, b));
            case 3:
                return same("why()", yard.why(), slow.why());
            case 4:
                return same("groups()", yard.groups(), slow.groups());
            case 5:
                return same("groupOf(" + a + ")", yard.groupOf(a), slow.groupOf(a));
            default: {
                int what = small(7);
                return same("count(" + what + ")", yard.count(what), slow.count(what));
            }
        }
    }

    private boolean inHand() {
        int i = small(mostHens);
        int k = small(mostHens);
        switch (chance.nextInt(9)) {
            case 0:
                return chance.nextInt(5) > 0 || same("begin()", yard.begin(), slow.begin());
            case 1:
                return same("order(" + i + ")", yard.order(i), slow.order(i));
            case 2:
                return same("move(" + i + ", " + k + ")", yard.move(i, k), slow.move(i, k));
            case 3:
                return same("weight()", yard.weight(), slow.weight());
            case 4:
                return same("fault()", yard.fault(), slow.fault());
            case 5: {
                int n = chance.nextInt(6) == 0 ? chance.nextInt(50) - 3 : 1 + chance.nextInt(3);
                return same("better(" + n + ")", yard.better(n), slow.better(n));
            }
            case 6:
                return same("turn()", yard.turn(), slow.turn());
            case 7:
                return standAll();
            default: {
                int hen = someHen();
                return same("stand(" + hen + ")", yard.stand(hen), slow.stand(hen));
            }
        }
    }

    private boolean standAll() {
        boolean good = same("begin()", yard.begin(), slow.begin());
        for (int h = 0; h < slow.count(0); h++) {
            if (slow.about(h, 2) == 1) {
                good &= same("stand(" + h + ")", yard.stand(h), slow.stand(h));
            }
        }
        for (int i = 0; i < 6; i++) {
            int from = small(mostHens);
            int to = small(mostHens);
            good &= same("move(" + from + ", " + to + ")", yard.move(from, to), slow.move(from, to));
        }
        return good;
    }

    private boolean dear() {
        if (slow.counting().size() > mostCounting) {
            return true;
        }
        switch (chance.nextInt(7)) {
            case 0:
                return same("least()", yard.least(), slow.least());
            case 1:
                return same("many()", yard.many(), slow.many());
            case 2: {
                long many = Math.max(1, slow.many());
                long k = chance.nextInt(4) == 0 ? small(6) : chance.nextInt((int) many + 1);
                return same("best(" + k + ")", yard.best(k), slow.best(k));
            }
            case 3:
                return same("number()", yard.number(), slow.number());
            case 4: {
                int a = someHen();
                int b = someHen();
                return same("sure(" + a + ", " + b + ")", yard.sure(a, b), slow.sure(a, b));
            }
            case 5:
                return same("loose()", yard.loose(), slow.loose())
                        && same("why() is NONE", yard.why() == NONE ? 1 : 0, slow.many() > 0 ? 1 : 0);
            default:
                return packAndTell();
        }
    }

    private boolean packAndTell() {
        boolean good = same("pack()", yard.pack(), slow.pack());
        for (int i = -1; i <= slow.count(4); i++) {
            long most = slow.ring(i, 1) > 0 ? slow.ring(i, 1) + 3 : 3;
            for (int what = -1; what < most; what++) {
                good &= same("ring(" + i + ", " + what + ")", yard.ring(i, what), slow.ring(i, what));
            }
        }
        return good;
    }

    private void run(int steps) {
        for (int i = 0; i < 4; i++) {
            if (slow.count(0) < mostHens) {
                int kind = chance.nextInt(5);
                same("hen(" + kind + ", NONE)", yard.hen(kind, NONE), slow.hen(kind, NONE));
            }
        }
        boolean good = true;
        for (int i = 0; i < steps && calls < MOST_CALLS && good; i++) {
            int roll = chance.nextInt(10);
            good = roll < 5 ? change() : roll < 7 ? look() : roll < 9 ? inHand() : dear();
        }
    }

    public static void main(String[] args) {
        for (int seed = 0; seed < 1500; seed++) {
            new RandomRunsTest(seed, 1 + seed % 6, 6).run(300);
        }
        for (int seed = 0; seed < 60; seed++) {
            new RandomRunsTest(10000 + seed, 7, 7).run(400);
        }
        for (int seed = 0; seed < 400; seed++) {
            new RandomRunsTest(20000 + seed, 12, 5).run(512);
        }
        System.out.println(wrong == 0 ? "all runs are as due" : wrong + " runs are not as due");
        if (wrong != 0) System.exit(1);
    }
}
