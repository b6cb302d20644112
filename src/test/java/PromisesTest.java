/** For each promise of the document: ordinary inputs, the edges that it names, wrong inputs. */
public final class PromisesTest {
    private static final long BAD = -2000000001L, NO = -2000000002L, FULL = -2000000003L, NONE = -2000000005L;
    private static final int NOBODY = -2000000005;
    private static int wrong = 0;

    private static void due(int promise, String call, long got, long want) {
        if (got != want) {
            wrong++;
            System.out.println("promise " + promise + ": " + call + " answered " + got + ", due is " + want);
        }
    }

    private static PeckYard yard(int... kinds) {
        PeckYard x = new PeckYard();
        for (int kind : kinds) {
            x.hen(kind, NOBODY);
        }
        return x;
    }

    private static void pecks(PeckYard x, int hen, int other, long weight) {
        if (x.about(hen, 3) == NONE) {
            x.pen(hen, 3);
        }
        x.peck(hen, other, weight);
    }

    private static void stand(PeckYard x, int... hens) {
        x.begin();
        for (int hen : hens) {
            x.stand(hen);
        }
    }

    private static long hand(PeckYard x) {
        long digits = 0;
        for (int i = 0; i < x.count(2); i++) {
            digits = digits * 100 + x.order(i);
        }
        return digits;
    }

    private static void newObject() {
        PeckYard x = new PeckYard();
        for (int what = 0; what <= 6; what++) {
            due(1, "count(" + what + ")", x.count(what), 0);
        }
        due(1, "order(0)", x.order(0), BAD);
        due(1, "undo()", x.undo(), NO);
        due(1, "ring(0, 0)", x.ring(0, 0), NONE);
        due(1, "number()", x.number(), 0);
        due(1, "groups()", x.groups(), 0);
    }

    private static void hens() {
        PeckYard x = new PeckYard();
        due(2, "hen(-1, NONE)", x.hen(-1, NOBODY), BAD);
        due(2, "hen(5, NONE)", x.hen(5, NOBODY), BAD);
        due(2, "hen(0, -1)", x.hen(0, -1), BAD);
        due(2, "hen(0, 12)", x.hen(0, 12), BAD);
        due(2, "its own number", x.hen(0, 0), BAD);
        due(2, "BAD keeps no change", x.count(3), 0);
        for (int h = 0; h < 12; h++) {
            due(2, "hen(kind, 11 or NONE)", x.hen(h % 5, h < 11 ? 11 : NOBODY), h);
        }
        due(2, "the 13th", x.hen(0, NOBODY), FULL);
        due(2, "the 13th, any asks", x.hen(0, 11), FULL);
        due(2, "BAD ahead of FULL", x.hen(5, NOBODY), BAD);
        due(2, "BAD ahead of FULL", x.hen(0, 12), BAD);
        due(2, "count(0)", x.count(0), 12);
    }

    private static void asking() {
        PeckYard x = yard(1, 0, 4);
        due(3, "ask(0, 1)", x.ask(0, 1), NONE);
        due(3, "ask(0, 11)", x.ask(0, 11), 1);
        due(3, "ask(0, NONE)", x.ask(0, NOBODY), 11);
        due(3, "ask(2, 0) of a GUEST", x.ask(2, 0), NONE);
        due(3, "about(2, 1)", x.about(2, 1), 0);
        due(3, "ask(0, 0)", x.ask(0, 0), BAD);
        due(3, "ask(0, 12)", x.ask(0, 12), BAD);
        due(3, "ask(0, -1)", x.ask(0, -1), BAD);
        due(3, "ask(3, 0)", x.ask(3, 0), BAD);
        due(3, "ask(-1, 0)", x.ask(-1, 0), BAD);
        due(3, "about(0, 1)", x.about(0, 1), NONE);
    }

    private static void taking() {
        PeckYard x = yard(0, 4);
        due(4, "take(1, 0)", x.take(1, 0), 0);
        due(4, "take(1, 1)", x.take(1, 1), 0);
        due(4, "count(1)", x.count(1), 2);
        due(4, "take(1, 0)", x.take(1, 0), 1);
        due(4, "count(1)", x.count(1), 1);
        due(4, "take(0, 1)", x.take(0, 1), NO);
        due(4, "take(0, 2)", x.take(0, 2), BAD);
        due(4, "take(1, -1)", x.take(1, -1), BAD);
        due(4, "take(2, 1)", x.take(2, 1), BAD);
        due(4, "take(-1, 1)", x.take(-1, 1), BAD);
    }

    private static void pens() {
        PeckYard x = yard(0, 0);
        for (int width = 0; width <= 3; width++) {
            due(5, "pen(0, width)", x.pen(0, width), 0);
            due(5, "about(0, 3)", x.about(0, 3), width);
            x.peck(0, 1, 9);
        }
        due(5, "a new one", x.pen(0, 3), 0);
        due(5, "has zeros", x.pecks(0, 1), 0);
        due(5, "pen(0, 4)", x.pen(0, 4), BAD);
        due(5, "pen(0, -1)", x.pen(0, -1), BAD);
        due(5, "pen(2, 0)", x.pen(2, 0), BAD);
        due(5, "pen(-1, 0)", x.pen(-1, 0), BAD);
    }

    private static void pecking() {
        long[] most = {127, 32767, 1000000, 1000000};
        for (int width = 0; width <= 3; width++) {
            PeckYard x = yard(0);
            x.pen(0, width);
            due(6, "the most", x.peck(0, 11, most[width]), 0);
            due(6, "one more", x.peck(0, 11, most[width] + 1), BAD);
            due(6, "below 0", x.peck(0, 11, -1), BAD);
            due(6, "2^32", x.peck(0, 11, 4294967296L), BAD);
            due(6, "0", x.peck(0, 11, 0), most[width]);
        }
        PeckYard x = yard(0);
        due(6, "MISSING", x.peck(0, 1, 1000000), NO);
        due(6, "MISSING and too much", x.peck(0, 1, 1000001), BAD);
        due(6, "MISSING and below 0", x.peck(0, 1, -1), BAD);
        due(6, "MISSING and itself", x.peck(0, 0, 1), BAD);
        due(6, "peck(0, 12, 1)", x.peck(0, 12, 1), BAD);
        due(6, "peck(0, -1, 1)", x.peck(0, -1, 1), BAD);
        due(6, "peck(1, 0, 1)", x.peck(1, 0, 1), BAD);
    }

    private static void leaving() {
        PeckYard x = yard(0, 0);
        pecks(x, 0, 1, 5);
        due(7, "leave(0)", x.leave(0), 0);
        due(7, "pecks(0, 1)", x.pecks(0, 1), 0);
        due(7, "about(0, 3)", x.about(0, 3), NONE);
        due(7, "leave(0)", x.leave(0), NO);
        due(7, "leave(2)", x.leave(2), BAD);
        due(7, "leave(-1)", x.leave(-1), BAD);
        x.pen(0, 0);
        due(7, "the old pecks are gone", x.pecks(0, 1), 0);
    }

    private static void abouts() {
        PeckYard x = yard(0, 4);
        x.hen(3, 0);
        x.pen(2, 1);
        due(8, "KIND", x.about(2, 0), 3);
        due(8, "asks", x.about(2, 1), 0);
        due(8, "COUNTS", x.about(2, 2), 1);
        due(8, "a GUEST does not", x.about(1, 2), 0);
        due(8, "WIDTH", x.about(2, 3), 1);
        due(8, "no PEN", x.about(0, 3), NONE);
        due(8, "asks for none", x.about(0, 1), NONE);
        due(8, "what 4", x.about(0, 4), BAD);
        due(8, "what -1", x.about(0, -1), BAD);
        due(8, "hen 3", x.about(3, 0), BAD);
        due(8, "hen -1", x.about(-1, 0), BAD);
    }

    private static void kinds() {
        PeckYard x = yard(0, 1, 2, 3, 4);
        long[] rows = {10000, 11000, 10100, 11010, 10001};
        for (int hen = 0; hen < 5; hen++) {
            long row = 0;
            for (int kind = 0; kind < 5; kind++) {
                row = row * 10 + x.isOf(hen, kind);
            }
            due(9, "isOf(" + hen + ", 0 .. 4)", row, rows[hen]);
        }
        due(9, "kind 5", x.isOf(0, 5), BAD);
        due(9, "kind -1", x.isOf(0, -1), BAD);
        due(9, "hen 5", x.isOf(5, 0), BAD);
        due(9, "hen -1", x.isOf(-1, 0), BAD);
    }

    private static void peckWeights() {
        PeckYard x = yard(0, 0);
        due(10, "MISSING", x.pecks(0, 1), 0);
        pecks(x, 0, 1, 7);
        due(10, "pecks(0, 1)", x.pecks(0, 1), 7);
        due(10, "pecks(1, 0)", x.pecks(1, 0), 0);
        due(10, "pecks(0, 11)", x.pecks(0, 11), 0);
        due(10, "pecks(0, 12)", x.pecks(0, 12), BAD);
        due(10, "pecks(0, -1)", x.pecks(0, -1), BAD);
        due(10, "pecks(0, 0)", x.pecks(0, 0), BAD);
        due(10, "pecks(2, 0)", x.pecks(2, 0), BAD);
    }

    private static void undoing() {
        PeckYard x = yard(0, 4);
        pecks(x, 0, 1, 7);
        x.take(1, 1);
        x.ask(0, 5);
        x.pen(0, 1);
        x.pen(0, 0);
        x.leave(0);
        x.hen(3, 0);
        due(11, "only 8 are kept", x.count(3), 8);
        stand(x, 2, 0);
        due(11, "hen()", x.undo(), 7);
        due(11, "count(0)", x.count(0), 2);
        due(11, "the ORDER IN HAND stays", hand(x), 200);
        due(11, "it is not WHOLE", x.weight(), NO);
        due(11, "leave()", x.undo(), 6);
        due(11, "WIDTH", x.about(0, 3), 0);
        due(11, "pen()", x.undo(), 5);
        due(11, "WIDTH", x.about(0, 3), 1);
        due(11, "pen()", x.undo(), 4);
        due(11, "WIDTH", x.about(0, 3), 3);
        due(11, "pecks(0, 1)", x.pecks(0, 1), 7);
        due(11, "ask()", x.undo(), 3);
        due(11, "about(0, 1)", x.about(0, 1), NONE);
        due(11, "take()", x.undo(), 2);
        due(11, "about(1, 2)", x.about(1, 2), 0);
        due(11, "peck()", x.undo(), 1);
        due(11, "pecks(0, 1)", x.pecks(0, 1), 0);
        due(11, "pen()", x.undo(), 0);
        due(11, "about(0, 3)", x.about(0, 3), NONE);
        due(11, "none is kept", x.undo(), NO);
        due(11, "count(0)", x.count(0), 2);
        due(11, "a call like before is a change", x.ask(0, NOBODY), NONE);
        due(11, "refused calls are none", x.ask(0, 0), BAD);
        due(11, "count(3)", x.count(3), 1);
    }

    private static void bestOrders() {
        PeckYard x = yard(0, 0, 0, 4);
        pecks(x, 2, 1, 4);
        pecks(x, 1, 2, 1);
        pecks(x, 3, 2, 9);
        due(12, "a GUEST's pecks are not looked at", x.least(), 1);
        due(13, "many()", x.many(), 3);
        due(14, "best(0)", x.best(0), 3);
        due(14, "the first", hand(x), 201);
        due(15, "number()", x.number(), 0);
        due(14, "best(2)", x.best(2), 3);
        due(14, "the last", hand(x), 20100);
        due(15, "number()", x.number(), 2);
        due(14, "best(3)", x.best(3), NONE);
        due(14, "best(-1)", x.best(-1), BAD);
        due(14, "neither changes the hand", hand(x), 20100);
        x.turn();
        due(15, "not a best one", x.number(), NONE);
        x.take(3, 1);
        due(15, "not WHOLE", x.number(), NO);
        due(12, "the GUEST counts now", x.least(), 1);
        due(16, "sure(3, 1)", x.sure(3, 1), 1);
        due(16, "sure(1, 3)", x.sure(1, 3), 2);
        due(16, "sure(0, 1)", x.sure(0, 1), 0);
        due(16, "the same", x.sure(1, 1), BAD);
        due(16, "hen 4", x.sure(0, 4), BAD);
        due(16, "hen -1", x.sure(-1, 0), BAD);
        x.take(3, 0);
        due(16, "it does not COUNT", x.sure(3, 0), BAD);
        due(16, "it does not COUNT", x.sure(0, 3), BAD);
    }

    private static void noLawfulOrder() {
        PeckYard x = yard(1, 1, 0);
        x.ask(0, 1);
        x.ask(1, 0);
        due(12, "none", x.least(), NONE);
        due(13, "none", x.many(), 0);
        due(14, "none", x.best(0), NONE);
        due(14, "BAD ahead", x.best(-1), BAD);
        due(16, "none", x.sure(0, 2), NONE);
        due(16, "BAD ahead", x.sure(0, 3), BAD);
        due(17, "0 leads to itself", x.why(), 0);
        stand(x, 0, 1, 2);
        due(15, "none", x.number(), NONE);
        due(28, "whatever is asked", x.loose(), 0);
    }

    /** Hens by kind and whom they ask for, in turns. */
    private static PeckYard asked(int... kindsAndAsks) {
        PeckYard x = new PeckYard();
        for (int i = 0; i + 1 < kindsAndAsks.length; i += 2) {
            x.hen(kindsAndAsks[i], kindsAndAsks[i + 1]);
        }
        return x;
    }

    private static void dueWhy(String what, PeckYard x, long want) {
        due(17, what, x.why(), want);
        due(17, what + ": whether there is a LAWFUL ORDER", x.many() > 0 ? 1 : 0, want == NONE ? 1 : 0);
    }

    private static void reasons() {
        dueWhy("no hens", new PeckYard(), NONE);
        dueWhy("a HEN and a GUEST ask for nothing", asked(0, 1, 0, 0, 4, 0), NONE);
        dueWhy("one that there is not, twice", asked(3, 7, 3, 7), NONE);
        dueWhy("two PAIRS", asked(0, NOBODY, 0, NOBODY, 3, 1, 3, 1), 101);
        dueWhy("a PAIR and a PULLET", asked(0, NOBODY, 0, NOBODY, 3, 1, 1, 1), NONE);
        dueWhy("two PAIRS each, the least", asked(3, 5, 3, 4, 3, 5, 3, 4, 0, NOBODY, 0, NOBODY), 104);
        dueWhy("by (1) ahead of (2)", asked(1, 1, 1, 0, 0, NOBODY, 3, 2, 3, 2), 102);
        dueWhy("a chain of PAIRS", asked(3, 2, 3, 0, 0, NOBODY), NONE);
        dueWhy("a ring of PAIRS", asked(0, 1, 3, 3, 3, 1, 3, 2), 1);
        dueWhy("PULLETS round", asked(0, 1, 1, 2, 1, 3, 1, 1), 1);
        dueWhy("OLD ones round", asked(0, 1, 2, 2, 2, 1), 1);
        dueWhy("OLD and PULLET say the same", asked(2, 1, 1, 0), NONE);

        PeckYard guest = asked(4, NOBODY, 3, 0, 3, 0);
        dueWhy("a GUEST does not COUNT", guest, NONE);
        guest.take(0, 1);
        dueWhy("it does", guest, 100);
    }

    private static void blockReasons() {
        dueWhy("1 and its PAIR 2, 3 between them", asked(0, NOBODY, 2, 3, 3, 1, 2, 2), 1);
        dueWhy("3 above both", asked(0, NOBODY, 0, 3, 3, 1, 2, 2), NONE);
        dueWhy("3 below both", asked(0, NOBODY, 2, 3, 3, 1, 1, 2), NONE);
        dueWhy("the last of a chain of three", asked(3, 1, 3, 3, 2, 0, 2, 2), 0);
        dueWhy("two blocks, each above the other", asked(2, 3, 3, 0, 2, 1, 3, 2), 0);
        dueWhy("two blocks, one above", asked(2, 3, 3, 0, 0, 1, 3, 2), NONE);
        dueWhy("who is only led to by them is not told", asked(1, 1, 2, 3, 3, 1, 2, 2), 1);
        dueWhy("the head of 1 2 0 below its second: all three", asked(3, 2, 1, 2, 3, 1), 0);
        dueWhy("the head above its third", asked(3, 2, 2, 0, 3, 1), NONE);
    }

    private static void handOrder() {
        PeckYard x = yard(0, 0, 0, 4);
        due(18, "begin()", x.begin(), 0);
        due(19, "stand(2)", x.stand(2), 1);
        due(19, "stand(2)", x.stand(2), BAD);
        due(19, "stand(4)", x.stand(4), BAD);
        due(19, "stand(-1)", x.stand(-1), BAD);
        due(19, "a GUEST that does not COUNT", x.stand(3), 2);
        due(19, "stand(0)", x.stand(0), 3);
        due(20, "order(0)", x.order(0), 2);
        due(20, "order(2)", x.order(2), 0);
        due(20, "order(3)", x.order(3), BAD);
        due(20, "order(-1)", x.order(-1), BAD);
        due(18, "begin()", x.begin(), 3);
        due(18, "it is empty", x.count(2), 0);
        due(20, "order(0)", x.order(0), BAD);
        PeckYard full = yard(0, 0, 0, 0, 0, 0, 0, 0, 0, 0, 0, 0);
        for (int hen = 11; hen >= 0; hen--) {
            due(19, "stand(hen)", full.stand(hen), 12 - hen);
        }
        due(19, "it has 12, and all stand there", full.stand(0), BAD);
    }

    private static void moving() {
        PeckYard x = yard(0, 0, 0, 0);
        stand(x, 0, 1, 2, 3);
        due(21, "move(0, 2)", x.move(0, 2), 0);
        due(21, "0 goes down", hand(x), 1020003);
        due(21, "move(3, 0)", x.move(3, 0), 0);
        due(21, "3 goes up", hand(x), 3010200);
        due(21, "move(1, 1)", x.move(1, 1), 0);
        due(21, "none goes", hand(x), 3010200);
        due(21, "move(4, 0)", x.move(4, 0), BAD);
        due(21, "move(0, 4)", x.move(0, 4), BAD);
        due(21, "move(-1, 0)", x.move(-1, 0), BAD);
        due(21, "move(0, -1)", x.move(0, -1), BAD);
        due(25, "turn()", x.turn(), 0);
        due(25, "turned", hand(x), 20103);
        x.begin();
        due(21, "move(0, 0) of none", x.move(0, 0), BAD);
        due(25, "turn() of none", x.turn(), 0);
        stand(x, 2, 1, 0);
        x.turn();
        due(25, "an odd number", hand(x), 102);
    }

    private static void weighing() {
        PeckYard x = yard(0, 0, 4);
        pecks(x, 0, 1, 5);
        pecks(x, 1, 0, 3);
        pecks(x, 1, 2, 100);
        due(22, "not WHOLE", x.weight(), NO);
        stand(x, 0, 1);
        due(22, "1 below 0 pecks it", x.weight(), 3);
        x.turn();
        due(22, "turned", x.weight(), 5);
        x.stand(2);
        due(22, "one that does not COUNT", x.weight(), NO);
        x.take(2, 1);
        due(22, "now it does", x.weight(), 5);
        x.turn();
        due(22, "2 is above", x.weight(), 103);
    }

    private static void faults() {
        PeckYard x = yard(0, 1, 2, 3);
        x.ask(0, 1);
        x.ask(1, 0);
        x.ask(2, 1);
        x.ask(3, 0);
        due(23, "not WHOLE", x.fault(), NO);
        stand(x, 2, 0, 3, 1);
        due(23, "LAWFUL", x.fault(), NONE);
        stand(x, 0, 1, 3, 2);
        due(23, "OLD is below, PAIR not right below", x.fault(), 2);
        stand(x, 2, 0, 1, 3);
        due(23, "PAIR is not right below", x.fault(), 3);
        stand(x, 2, 3, 0, 1);
        due(23, "PAIR is above", x.fault(), 3);
        stand(x, 1, 2, 3, 0);
        due(23, "the least of all", x.fault(), 1);
        x.ask(1, NOBODY);
        x.ask(2, 7);
        x.ask(3, NOBODY);
        due(23, "not looked at", x.fault(), NONE);
    }

    private static void bettering() {
        PeckYard x = yard(0, 0, 0);
        due(24, "not WHOLE", x.better(1), NO);
        due(24, "better(0)", x.better(0), BAD);
        due(24, "better(41)", x.better(41), BAD);
        due(24, "better(-1)", x.better(-1), BAD);
        pecks(x, 2, 0, 5);
        pecks(x, 1, 0, 5);
        stand(x, 0, 1, 2);
        due(24, "better(1)", x.better(1), 1);
        due(24, "0 goes below both", hand(x), 10200);
        due(24, "no more", x.better(40), 0);
        stand(x, 0, 1, 2);
        pecks(x, 1, 0, 0);
        due(24, "better(40)", x.better(40), 1);
        due(24, "the least hen goes to the only place", hand(x), 10200);
        stand(x, 1, 0, 2);
        due(24, "better(1)", x.better(1), 1);
        due(24, "hen 0, not hen 2", hand(x), 10200);

        PeckYard y = yard(0, 0, 0);
        pecks(y, 2, 0, 5);
        stand(y, 0, 2, 1);
        due(24, "better(1)", y.better(1), 1);
        due(24, "the least of its places", hand(y), 20001);

        PeckYard z = yard(1, 0, 0, 0);
        z.ask(0, 1);
        pecks(z, 0, 1, 9);
        pecks(z, 3, 2, 1);
        stand(z, 0, 1, 2, 3);
        due(24, "not LAWFUL at first, lighter is no lawful move", z.better(5), 0);
        pecks(z, 2, 0, 9);
        pecks(z, 3, 0, 9);
        pecks(z, 1, 0, 9);
        due(24, "what makes it lawful, then the rest", z.better(5), 2);
        due(24, "hand", hand(z), 1030200);
        stand(z, 0, 1, 2, 3);
        due(24, "only once", z.better(1), 1);
        due(24, "hand", hand(z), 1020300);
    }

    private static void grouping() {
        PeckYard x = yard(0, 0, 0, 0, 4);
        pecks(x, 3, 1, 1);
        pecks(x, 1, 3, 1);
        pecks(x, 3, 0, 1);
        pecks(x, 0, 4, 1);
        pecks(x, 4, 3, 1);
        due(26, "0; 1 3; 2", x.groups(), 3);
        due(27, "1 3 have the least hen that may be first", x.groupOf(3), 0);
        due(27, "groupOf(1)", x.groupOf(1), 0);
        due(27, "then 0", x.groupOf(0), 1);
        due(27, "then 2", x.groupOf(2), 2);
        due(27, "it does not COUNT", x.groupOf(4), NONE);
        due(27, "no such hen", x.groupOf(5), BAD);
        due(27, "no such hen", x.groupOf(-1), BAD);
        x.take(4, 1);
        due(26, "led round by 4", x.groups(), 2);
        due(27, "groupOf(4)", x.groupOf(4), 0);
        due(27, "groupOf(2)", x.groupOf(2), 1);
        x.undo();
        due(26, "as it was", x.groups(), 3);
    }

    private static void loosening() {
        PeckYard x = yard(1, 0);
        x.ask(0, 1);
        pecks(x, 0, 1, 8);
        pecks(x, 1, 0, 3);
        due(12, "as is asked", x.least(), 8);
        due(28, "whatever is asked", x.loose(), 3);
        x.pen(1, 0);
        due(28, "none upset", x.loose(), 0);
        due(28, "no hens", new PeckYard().loose(), 0);
    }

    private static void packing() {
        PeckYard x = yard(0, 0, 0, 0);
        pecks(x, 0, 1, 4);
        pecks(x, 1, 2, 4);
        pecks(x, 2, 0, 3);
        pecks(x, 1, 3, 4);
        pecks(x, 3, 0, 4);
        pecks(x, 2, 3, 2);
        pecks(x, 3, 2, 1);
        due(29, "1 by 2 3, 3 by 0 1 2, 1 by 0 1 3", x.pack(), 5);
        due(31, "count(4)", x.count(4), 3);
        long[][] rings = {{1, 2, 2, 3, NONE}, {3, 3, 0, 1, 2, NONE}, {1, 3, 0, 1, 3, NONE}};
        for (int i = 0; i < rings.length; i++) {
            for (int what = 0; what < rings[i].length; what++) {
                due(30, "ring(" + i + ", " + what + ")", x.ring(i, what), rings[i][what]);
            }
        }
        due(30, "ring(3, 0)", x.ring(3, 0), NONE);
        due(30, "ring(-1, 0)", x.ring(-1, 0), BAD);
        due(30, "ring(0, -1)", x.ring(0, -1), BAD);
        due(30, "BAD ahead", x.ring(9, -1), BAD);
        due(30, "far out", x.ring(Integer.MAX_VALUE, Integer.MAX_VALUE), NONE);
        due(30, "far out", x.ring(0, Integer.MAX_VALUE), NONE);
        x.leave(0);
        x.undo();
        x.leave(1);
        due(30, "kept till the next pack()", x.ring(1, 1), 3);
        due(29, "2 3 alone", x.pack(), 1);
        due(31, "count(4)", x.count(4), 1);
        due(30, "ring(1, 1)", x.ring(1, 1), NONE);
        x.leave(3);
        due(29, "none", x.pack(), 0);
        due(31, "count(4)", x.count(4), 0);
    }

    private static void counting() {
        PeckYard x = yard(0, 0, 4);
        pecks(x, 0, 1, 5);
        pecks(x, 1, 0, 2);
        pecks(x, 2, 0, 7);
        pecks(x, 0, 2, 11);
        stand(x, 1);
        due(31, "hens", x.count(0), 3);
        due(31, "that COUNT", x.count(1), 2);
        due(31, "in hand", x.count(2), 1);
        due(31, "changes", x.count(3), 8);
        due(31, "rings", x.count(4), 0);
        due(31, "pecks", x.count(5), 7);
        due(31, "PENS", x.count(6), 3);
        x.take(2, 1);
        due(31, "pecks with the GUEST", x.count(5), 25);
        x.leave(0);
        due(31, "PENS", x.count(6), 2);
        due(31, "count(7)", x.count(7), BAD);
        due(31, "count(-1)", x.count(-1), BAD);
    }

    public static void main(String[] args) {
        newObject();
        hens();
        asking();
        taking();
        pens();
        pecking();
        leaving();
        abouts();
        kinds();
        peckWeights();
        undoing();
        bestOrders();
        noLawfulOrder();
        reasons();
        blockReasons();
        handOrder();
        moving();
        weighing();
        faults();
        bettering();
        grouping();
        loosening();
        packing();
        counting();
        System.out.println(wrong == 0 ? "all promises are kept" : wrong + " answers are not as due");
        if (wrong != 0) System.exit(1);
    }
}
