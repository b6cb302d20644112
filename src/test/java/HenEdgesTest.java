/** The sentences of 'Terms' 1 and 5 and of promises 1 to 11 that name a boundary case, one by one. */
public final class HenEdgesTest extends Edges {
    private static void constants() {
        sentence("The public face", "BAD, NO, FULL, NONE", () -> {
            due("BAD", PeckYard.BAD, -2000000001L);
            due("NO", PeckYard.NO, -2000000002L);
            due("FULL", PeckYard.FULL, -2000000003L);
            due("NONE", PeckYard.NONE, -2000000005L);
            due("NONE as an int", (int) PeckYard.NONE, NOBODY);
        });
    }

    private static void newObject() {
        sentence("Promise 1", "No hens", () -> {
            PeckYard x = new PeckYard();
            due("count(0)", x.count(0), 0);
            due("count(1)", x.count(1), 0);
            due("about(0, 0)", x.about(0, 0), BAD);
            due("isOf(0, 0)", x.isOf(0, 0), BAD);
            due("pecks(0, 1)", x.pecks(0, 1), BAD);
            due("ask(0, 1)", x.ask(0, 1), BAD);
            due("take(0, 1)", x.take(0, 1), BAD);
            due("pen(0, 0)", x.pen(0, 0), BAD);
            due("peck(0, 1, 0)", x.peck(0, 1, 0), BAD);
            due("leave(0)", x.leave(0), BAD);
            due("stand(0)", x.stand(0), BAD);
            due("groupOf(0)", x.groupOf(0), BAD);
            due("sure(0, 1)", x.sure(0, 1), BAD);
        });
        sentence("Promise 1", "an empty ORDER IN HAND", () -> {
            PeckYard x = new PeckYard();
            due("count(2)", x.count(2), 0);
            due("order(0)", x.order(0), BAD);
            due("begin()", x.begin(), 0);
        });
        sentence("Promise 1", "nothing else is kept at first", () -> {
            PeckYard x = new PeckYard();
            due("count(3), changes", x.count(3), 0);
            due("undo()", x.undo(), NO);
            due("count(4), rings", x.count(4), 0);
            due("ring(0, 0)", x.ring(0, 0), NONE);
            due("count(5), pecks", x.count(5), 0);
            due("count(6), PENS", x.count(6), 0);
        });
        sentence("Promise 1", "one object knows nothing of another", () -> {
            PeckYard first = standing(pecking(hens(3), 0, 1, 5, 1, 0, 5), 2, 1);
            first.pack();
            PeckYard x = new PeckYard();
            for (int what = 0; what <= 6; what++) {
                due("count(" + what + ")", x.count(what), 0);
            }
            x.hen(HEN, NOBODY);
            due("pecks(0, 1)", x.pecks(0, 1), 0);
            due("first count(0)", first.count(0), 3);
        });
    }

    private static void numbers() {
        sentence("Terms 1", "HENS, 12 at most, numbered from 0 as they come", () -> {
            PeckYard x = new PeckYard();
            for (int n = 0; n < 12; n++) {
                due("hen", x.hen(n % 5, NOBODY), n);
                due("count(0)", x.count(0), n + 1);
            }
            due("hen, the 13th", x.hen(HEN, NOBODY), FULL);
            due("about(11, 0)", x.about(11, 0), 11 % 5);
            due("about(12, 0)", x.about(12, 0), BAD);
        });
        sentence("Promise 2", "One more hen: its number, which a hen that was taken back had", () -> {
            PeckYard x = hens(2);
            x.undo();
            due("hen", x.hen(OLD, 0), 1);
            due("about(1, 0)", x.about(1, 0), OLD);
            due("about(1, 1)", x.about(1, 1), 0);
        });
        sentence("Promise 2", "a new hen is as new, where one was taken back", () -> {
            PeckYard x = yard(HEN, GUEST);
            x.take(1, 1);
            x.pen(1, 2);
            x.peck(1, 0, 9);
            for (int n = 0; n < 4; n++) {
                x.undo();
            }
            x.hen(GUEST, NOBODY);
            due("about(1, 2)", x.about(1, 2), 0);
            due("about(1, 3)", x.about(1, 3), NONE);
            due("pecks(1, 0)", x.pecks(1, 0), 0);
            due("peck(1, 0, 1)", x.peck(1, 0, 1), NO);
        });
        sentence("Promise 2", "BAD: the KIND is none of 0 .. 4", () -> {
            PeckYard x = new PeckYard();
            for (int kind : new int[] {-1, 5, 6, LEAST, MOST, NOBODY, 256, 65536}) {
                due("hen(" + kind + ", NONE)", x.hen(kind, NOBODY), BAD);
            }
            due("hen(0, NONE)", x.hen(0, NOBODY), 0);
            due("hen(4, NONE)", x.hen(4, NOBODY), 1);
        });
        sentence("Promise 2", "asks: 0 .. 11, not its own, or NONE", () -> {
            for (int asks = 0; asks <= 11; asks++) {
                due("a 4th hen that asks for " + asks, hens(3).hen(PULLET, asks), asks == 3 ? BAD : 3);
            }
            for (int asks : new int[] {-1, 12, 13, LEAST, MOST, NOBODY + 1, NOBODY - 1, NOBODY + 4}) {
                due("hen(1, " + asks + ")", hens(3).hen(PULLET, asks), BAD);
            }
            due("hen(1, NONE)", hens(3).hen(PULLET, NOBODY), 3);
        });
        sentence("Promise 2", "asks is looked at for a HEN and a GUEST, too", () -> {
            for (int kind = 0; kind <= 4; kind++) {
                due("its own", hens(1).hen(kind, 1), BAD);
                due("12", hens(1).hen(kind, 12), BAD);
                due("11", hens(1).hen(kind, 11), 1);
            }
        });
        sentence("Promise 2", "FULL, with any number that may be asked for", () -> {
            for (int asks = 0; asks <= 11; asks++) {
                due("hen(1, " + asks + ")", hens(12).hen(PULLET, asks), FULL);
            }
            due("hen(1, NONE)", hens(12).hen(PULLET, NOBODY), FULL);
        });
        sentence("Promise 2", "FULL no more, when one is taken back", () -> {
            PeckYard x = hens(12);
            due("hen", x.hen(HEN, NOBODY), FULL);
            due("undo()", x.undo(), 7);
            due("hen", x.hen(HEN, NOBODY), 11);
            due("hen", x.hen(HEN, NOBODY), FULL);
        });
    }

    private static void kindsThatAsk() {
        sentence("Terms 1", "0 HEN (it asks for nothing, whatever stands there)", () -> {
            PeckYard x = asked(HEN, 1, HEN, 0);
            due("about(0, 1), what stands there", x.about(0, 1), 1);
            due("many()", x.many(), 2);
            due("why()", x.why(), NONE);
            due("fault()", standing(x, 0, 1).fault(), NONE);
            due("fault()", standing(x, 1, 0).fault(), NONE);
        });
        sentence("Terms 1", "1 PULLET: stands below the one that it asks for", () ->
                same("all", bestOnes(asked(PULLET, 1, HEN, NOBODY, HEN, NOBODY)), "1 0 2 | 1 2 0 | 2 1 0"));
        sentence("Terms 1", "2 OLD: stands above that one", () ->
                same("all", bestOnes(asked(HEN, NOBODY, OLD, 0, HEN, NOBODY)), "1 0 2 | 1 2 0 | 2 1 0"));
        sentence("Terms 1", "3 PAIR: stands right below that one, none between", () ->
                same("all", bestOnes(asked(PAIR, 1, HEN, NOBODY, HEN, NOBODY)), "1 0 2 | 2 1 0"));
        sentence("Terms 1", "4 GUEST: asks for nothing", () -> {
            PeckYard x = asked(GUEST, 1, HEN, NOBODY);
            x.take(0, 1);
            due("about(0, 1), what stands there", x.about(0, 1), 1);
            same("all", bestOnes(x), "0 1 | 1 0");
        });
        sentence("Terms 1", "COUNTS only while it is taken in (it is not at first)", () -> {
            PeckYard x = yard(GUEST);
            due("about(0, 2)", x.about(0, 2), 0);
            due("count(1)", x.count(1), 0);
            x.take(0, 1);
            due("about(0, 2)", x.about(0, 2), 1);
            due("count(1)", x.count(1), 1);
            x.take(0, 0);
            due("about(0, 2)", x.about(0, 2), 0);
            due("count(1)", x.count(1), 0);
        });
        sentence("Terms 1", "All others COUNT", () -> {
            PeckYard x = yard(HEN, PULLET, OLD, PAIR);
            for (int hen = 0; hen < 4; hen++) {
                due("about(" + hen + ", 2)", x.about(hen, 2), 1);
            }
            due("count(1)", x.count(1), 4);
        });
        sentence("Terms 1", "What is asked for one that there is not is not looked at", () -> {
            PeckYard x = asked(PAIR, 2, PAIR, 2);
            same("all", bestOnes(x), "0 1 | 1 0");
            due("why()", x.why(), NONE);
            due("fault()", x.fault(), NONE);
            x.hen(HEN, NOBODY);
            due("why(), when there is", x.why(), 102);
            due("many()", x.many(), 0);
            x.undo();
            same("all, when there is no more", bestOnes(x), "0 1 | 1 0");
        });
        sentence("Terms 1", "or that does not COUNT", () -> {
            PeckYard x = asked(GUEST, NOBODY, PULLET, 0, OLD, 0);
            same("all", bestOnes(x), "1 2 | 2 1");
            x.take(0, 1);
            same("all, when it does", bestOnes(x), "2 0 1");
            x.take(0, 0);
            same("all, when it does no more", bestOnes(x), "1 2 | 2 1");
        });
        sentence("Terms 1", "or by one that does not COUNT", () -> {
            PeckYard x = asked(HEN, NOBODY, GUEST, 0, GUEST, 0);
            x.take(1, 1);
            same("all", bestOnes(x), "0 1 | 1 0");
        });
    }

    private static void pens() {
        sentence("Terms 1", "the PEN is MISSING at first, all its pecks are 0 then", () -> {
            PeckYard x = hens(2);
            due("about(1, 3)", x.about(1, 3), NONE);
            due("count(6)", x.count(6), 0);
            for (int other = 0; other < 12; other++) {
                due("pecks(1, " + other + ")", x.pecks(1, other), other == 1 ? BAD : 0);
            }
        });
        sentence("Terms 1", "a row of 12 weights by those who are pecked", () -> {
            PeckYard x = hens(2);
            x.pen(0, 1);
            x.pen(1, 1);
            for (int other = 0; other < 12; other++) {
                due("peck(0, " + other + ")", x.peck(0, other, 100 + other), other == 0 ? BAD : 0);
                due("peck(1, " + other + ")", x.peck(1, other, 200 + other), other == 1 ? BAD : 0);
            }
            for (int other = 0; other < 12; other++) {
                due("pecks(0, " + other + ")", x.pecks(0, other), other == 0 ? BAD : 100 + other);
                due("pecks(1, " + other + ")", x.pecks(1, other), other == 1 ? BAD : 200 + other);
            }
        });
        widthHolds("0 bytes (weights 0 .. 127)", 0, 127);
        widthHolds("1 shorts (0 .. 32767)", 1, 32767);
        widthHolds("2 ints (0 .. 1000000)", 2, 1000000);
        widthHolds("3 longs (0 .. 1000000)", 3, 1000000);
        sentence("Promise 5", "BAD: the WIDTH is none of 0 .. 3", () -> {
            PeckYard x = hens(1);
            for (int width : new int[] {-1, 4, 5, LEAST, MOST, NOBODY}) {
                due("pen(0, " + width + ")", x.pen(0, width), BAD);
                due("about(0, 3)", x.about(0, 3), NONE);
            }
        });
        sentence("Promise 5", "BAD: there is no such hen", () -> {
            PeckYard x = hens(2);
            for (int hen : new int[] {-1, 2, 11, 12, LEAST, MOST}) {
                due("pen(" + hen + ", 0)", x.pen(hen, 0), BAD);
            }
        });
        sentence("Promise 5", "is new, of a WIDTH, all weights 0: 0", () -> {
            for (int width = 0; width <= 3; width++) {
                PeckYard x = pecking(hens(3), 1, 0, 7, 1, 11, 8);
                due("pen(1, " + width + ")", x.pen(1, width), 0);
                due("about(1, 3)", x.about(1, 3), width);
                due("pecks(1, 0)", x.pecks(1, 0), 0);
                due("pecks(1, 11)", x.pecks(1, 11), 0);
            }
        });
        sentence("Promise 5", "of that hen alone", () -> {
            PeckYard x = pecking(hens(3), 0, 11, 3, 2, 0, 4, 1, 0, 5);
            x.pen(1, 0);
            due("pecks(0, 11)", x.pecks(0, 11), 3);
            due("pecks(2, 0)", x.pecks(2, 0), 4);
        });
    }

    private static void widthHolds(String words, int width, long most) {
        sentence("Terms 1", words, () -> {
            PeckYard x = hens(1);
            x.pen(0, width);
            due("peck of 0", x.peck(0, 1, 0), 0);
            due("peck of 1", x.peck(0, 1, 1), 0);
            due("peck of the most", x.peck(0, 1, most), 1);
            due("pecks(0, 1)", x.pecks(0, 1), most);
            for (long weight : new long[] {most + 1, -1, 128 - 256, -32768, Long.MIN_VALUE, Long.MAX_VALUE}) {
                due("peck of " + weight, x.peck(0, 1, weight), BAD);
            }
            due("peck that is 1 in a byte", x.peck(0, 1, most > 255 ? -255 : 257), BAD);
            due("peck that is 1 in a short", x.peck(0, 1, most > 65535 ? -65535 : 65537), BAD);
            due("peck that is 1 in an int", x.peck(0, 1, 4294967297L), BAD);
            due("peck that is -1 in an int", x.peck(0, 1, 4294967295L), BAD);
            due("pecks(0, 1)", x.pecks(0, 1), most);
        });
    }

    private static void asks() {
        sentence("Promise 3", "what it was", () -> {
            PeckYard x = hens(2);
            due("ask(1, 0)", x.ask(1, 0), NONE);
            due("ask(1, 11)", x.ask(1, 11), 0);
            due("ask(1, NONE)", x.ask(1, NOBODY), 11);
            due("ask(1, NONE)", x.ask(1, NOBODY), NONE);
            due("about(1, 1)", x.about(1, 1), NONE);
        });
        sentence("Promise 3", "(as in hen()): 0 .. 11, not its own, or NONE", () -> {
            PeckYard x = hens(12);
            for (int asks = 0; asks <= 11; asks++) {
                long was = asks == 0 ? NONE : asks == 6 ? 4 : asks - 1;
                due("ask(5, " + asks + ")", x.ask(5, asks), asks == 5 ? BAD : was);
            }
            for (int asks : new int[] {-1, 12, LEAST, MOST, NOBODY + 1, NOBODY - 1}) {
                due("ask(5, " + asks + ")", x.ask(5, asks), BAD);
            }
            due("about(5, 1)", x.about(5, 1), 11);
        });
        sentence("Promise 3", "one that is not there may be asked for", () -> {
            PeckYard x = hens(1);
            due("ask(0, 1)", x.ask(0, 1), NONE);
            due("ask(0, 11)", x.ask(0, 11), 1);
        });
        sentence("Promise 3", "BAD: there is no such hen", () -> {
            PeckYard x = hens(2);
            for (int hen : new int[] {-1, 2, 11, 12, LEAST, MOST}) {
                due("ask(" + hen + ", 0)", x.ask(hen, 0), BAD);
                due("ask(" + hen + ", NONE)", x.ask(hen, NOBODY), BAD);
            }
        });
        sentence("Promise 3", "all KINDS may be told whom to ask for", () -> {
            PeckYard x = yard(HEN, PULLET, OLD, PAIR, GUEST);
            for (int hen = 0; hen < 5; hen++) {
                due("ask(" + hen + ", 7)", x.ask(hen, 7), NONE);
                due("about(" + hen + ", 1)", x.about(hen, 1), 7);
            }
        });
    }

    private static void guests() {
        sentence("Promise 4", "what it was", () -> {
            PeckYard x = yard(GUEST);
            due("take(0, 0)", x.take(0, 0), 0);
            due("take(0, 1)", x.take(0, 1), 0);
            due("take(0, 1)", x.take(0, 1), 1);
            due("take(0, 0)", x.take(0, 0), 1);
            due("take(0, 0)", x.take(0, 0), 0);
        });
        sentence("Promise 4", "BAD: in is neither 1 nor 0", () -> {
            PeckYard x = yard(GUEST);
            for (int in : new int[] {-1, 2, 3, 256, LEAST, MOST, NOBODY}) {
                due("take(0, " + in + ")", x.take(0, in), BAD);
            }
            due("about(0, 2)", x.about(0, 2), 0);
        });
        sentence("Promise 4", "BAD: there is no such hen", () -> {
            PeckYard x = yard(GUEST, GUEST);
            for (int hen : new int[] {-1, 2, 11, 12, LEAST, MOST}) {
                due("take(" + hen + ", 1)", x.take(hen, 1), BAD);
            }
        });
        sentence("Promise 4", "NO: it is no GUEST", () -> {
            PeckYard x = yard(HEN, PULLET, OLD, PAIR);
            for (int hen = 0; hen < 4; hen++) {
                due("take(" + hen + ", 1)", x.take(hen, 1), NO);
                due("take(" + hen + ", 0)", x.take(hen, 0), NO);
                due("about(" + hen + ", 2)", x.about(hen, 2), 1);
            }
        });
        sentence("Promise 4", "BAD stands ahead of NO", () -> {
            PeckYard x = yard(HEN);
            due("take(0, 2)", x.take(0, 2), BAD);
            due("take(0, -1)", x.take(0, -1), BAD);
        });
    }

    private static void pecks() {
        sentence("Promise 6", "what it was", () -> {
            PeckYard x = hens(1);
            x.pen(0, 0);
            due("peck(0, 1, 5)", x.peck(0, 1, 5), 0);
            due("peck(0, 1, 0)", x.peck(0, 1, 0), 5);
            due("peck(0, 1, 127)", x.peck(0, 1, 127), 0);
            due("peck(0, 1, 127)", x.peck(0, 1, 127), 127);
        });
        sentence("Promise 6", "another one (0 .. 11, not itself)", () -> {
            PeckYard x = hens(12);
            x.pen(5, 0);
            for (int other : new int[] {5, -1, 12, LEAST, MOST, NOBODY}) {
                due("peck(5, " + other + ", 1)", x.peck(5, other, 1), BAD);
            }
            due("peck(5, 0, 1)", x.peck(5, 0, 1), 0);
            due("peck(5, 11, 1)", x.peck(5, 11, 1), 0);
        });
        sentence("Promise 6", "it need not be there yet", () -> {
            PeckYard x = pecking(hens(1), 0, 1, 5);
            due("count(5)", x.count(5), 0);
            x.hen(OLD, 0);
            due("count(5), when it is", x.count(5), 5);
            due("least()", x.least(), 5);
        });
        sentence("Promise 6", "BAD: there is no such hen", () -> {
            PeckYard x = hens(2);
            for (int hen : new int[] {-1, 2, 11, 12, LEAST, MOST}) {
                due("peck(" + hen + ", 0, 0)", x.peck(hen, 0, 0), BAD);
            }
        });
        sentence("Promise 6", "NO: the PEN is MISSING (then 0 .. 1000000 is asked of the weight)", () -> {
            PeckYard x = hens(1);
            due("peck of 0", x.peck(0, 1, 0), NO);
            due("peck of 128", x.peck(0, 1, 128), NO);
            due("peck of 1000000", x.peck(0, 1, 1000000), NO);
            due("peck of 1000001", x.peck(0, 1, 1000001), BAD);
            due("peck of -1", x.peck(0, 1, -1), BAD);
            due("peck of 2^32", x.peck(0, 1, 4294967296L), BAD);
            due("peck of the least", x.peck(0, 1, Long.MIN_VALUE), BAD);
            due("peck of itself", x.peck(0, 0, 1), BAD);
            due("peck of 12", x.peck(0, 12, 1), BAD);
        });
        sentence("Promise 6", "MISSING again, what the WIDTH was is not asked", () -> {
            PeckYard x = hens(1);
            x.pen(0, 0);
            x.leave(0);
            due("peck of 1000000", x.peck(0, 1, 1000000), NO);
        });
        sentence("Promise 7", "The PEN of a hen is MISSING: 0", () -> {
            PeckYard x = pecking(hens(2), 1, 0, 5, 1, 11, 6, 0, 1, 7);
            due("leave(1)", x.leave(1), 0);
            due("about(1, 3)", x.about(1, 3), NONE);
            due("pecks(1, 0)", x.pecks(1, 0), 0);
            due("pecks(1, 11)", x.pecks(1, 11), 0);
            due("pecks(0, 1)", x.pecks(0, 1), 7);
            due("count(6)", x.count(6), 1);
        });
        sentence("Promise 7", "NO: it is so", () -> {
            PeckYard x = hens(1);
            due("leave(0)", x.leave(0), NO);
            x.pen(0, 0);
            due("leave(0)", x.leave(0), 0);
            due("leave(0)", x.leave(0), NO);
        });
        sentence("Promise 7", "BAD", () -> {
            PeckYard x = hens(2);
            for (int hen : new int[] {-1, 2, 11, 12, LEAST, MOST}) {
                due("leave(" + hen + ")", x.leave(hen), BAD);
            }
        });
    }

    private static void lookingAtHens() {
        sentence("Promise 8", "what 0 its KIND, 1 whom it asks for, 2 whether it COUNTS, 3 the WIDTH", () -> {
            PeckYard x = asked(GUEST, 3, PAIR, 0);
            x.pen(1, 2);
            due("about(0, 0)", x.about(0, 0), 4);
            due("about(0, 1)", x.about(0, 1), 3);
            due("about(0, 2)", x.about(0, 2), 0);
            due("about(1, 0)", x.about(1, 0), 3);
            due("about(1, 1)", x.about(1, 1), 0);
            due("about(1, 2)", x.about(1, 2), 1);
            due("about(1, 3)", x.about(1, 3), 2);
        });
        sentence("Promise 8", "(NONE)", () -> {
            PeckYard x = hens(1);
            due("about(0, 1)", x.about(0, 1), NONE);
            due("about(0, 3)", x.about(0, 3), NONE);
            x.ask(0, 1);
            x.pen(0, 0);
            due("about(0, 1)", x.about(0, 1), 1);
            due("about(0, 3)", x.about(0, 3), 0);
        });
        sentence("Promise 8", "BAD: what is none of 0 .. 3, or there is no such hen", () -> {
            PeckYard x = hens(2);
            for (int none : new int[] {-1, 4, 5, LEAST, MOST, NOBODY}) {
                due("about(0, " + none + ")", x.about(0, none), BAD);
                due("about(" + none + ", 0)", x.about(none, 0), BAD);
            }
            due("about(2, 0)", x.about(2, 0), BAD);
        });
        sentence("Promise 9", "(all are HENS)", () -> {
            PeckYard x = yard(HEN, PULLET, OLD, PAIR, GUEST);
            for (int hen = 0; hen < 5; hen++) {
                due("isOf(" + hen + ", 0)", x.isOf(hen, HEN), 1);
                due("isOf(" + hen + ", its own)", x.isOf(hen, hen), 1);
            }
        });
        sentence("Terms 1", "3 PAIR: a PULLET, too", () -> {
            PeckYard x = yard(HEN, PULLET, OLD, PAIR, GUEST);
            due("isOf(3, PULLET)", x.isOf(3, PULLET), 1);
            due("isOf(1, PAIR)", x.isOf(1, PAIR), 0);
            due("isOf(2, PULLET)", x.isOf(2, PULLET), 0);
            due("isOf(4, PULLET)", x.isOf(4, PULLET), 0);
            due("isOf(0, PULLET)", x.isOf(0, PULLET), 0);
            due("isOf(3, OLD)", x.isOf(3, OLD), 0);
            due("isOf(3, GUEST)", x.isOf(3, GUEST), 0);
        });
        sentence("Promise 9", "a GUEST is one, taken in or not", () -> {
            PeckYard x = yard(GUEST);
            due("isOf(0, GUEST)", x.isOf(0, GUEST), 1);
            x.take(0, 1);
            due("isOf(0, GUEST)", x.isOf(0, GUEST), 1);
        });
        sentence("Promise 9", "BAD", () -> {
            PeckYard x = hens(2);
            for (int none : new int[] {-1, 5, LEAST, MOST, NOBODY}) {
                due("isOf(0, " + none + ")", x.isOf(0, none), BAD);
                due("isOf(" + none + ", 0)", x.isOf(none, 0), BAD);
            }
            due("isOf(2, 0)", x.isOf(2, 0), BAD);
        });
        sentence("Promise 10", "another one (0 .. 11, not itself)", () -> {
            PeckYard x = pecking(hens(2), 1, 0, 5, 1, 11, 6);
            due("pecks(1, 0)", x.pecks(1, 0), 5);
            due("pecks(1, 11)", x.pecks(1, 11), 6);
            for (int other : new int[] {1, -1, 12, LEAST, MOST, NOBODY}) {
                due("pecks(1, " + other + ")", x.pecks(1, other), BAD);
            }
        });
        sentence("Promise 10", "BAD: there is no such hen", () -> {
            PeckYard x = hens(2);
            for (int hen : new int[] {-1, 2, 11, 12, LEAST, MOST}) {
                due("pecks(" + hen + ", 0)", x.pecks(hen, 0), BAD);
            }
        });
    }

    public static void main(String[] args) {
        constants();
        newObject();
        numbers();
        kindsThatAsk();
        pens();
        asks();
        guests();
        pecks();
        lookingAtHens();
        finish();
    }
}
