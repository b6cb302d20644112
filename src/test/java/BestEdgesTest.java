/** The sentences of 'Terms' 2 and of promises 12 to 17 that name a boundary case, one by one. */
public final class BestEdgesTest extends Edges {
    private static void empty() {
        sentence("Terms 2", "Without a hen that COUNTS the empty ORDER is the BEST one, of WEIGHT 0: no hens", () -> {
            PeckYard x = new PeckYard();
            due("least()", x.least(), 0);
            due("many()", x.many(), 1);
            due("best(0)", x.best(0), 0);
            due("best(1)", x.best(1), NONE);
            due("number()", x.number(), 0);
            due("weight()", x.weight(), 0);
            due("fault()", x.fault(), NONE);
            due("better(40)", x.better(40), 0);
            due("why()", x.why(), NONE);
            due("loose()", x.loose(), 0);
        });
        sentence("Terms 2", "Without a hen that COUNTS the empty ORDER is the BEST one, of WEIGHT 0: GUESTS alone", () -> {
            PeckYard x = pecking(yard(GUEST, GUEST), 0, 1, 5, 1, 0, 5);
            due("least()", x.least(), 0);
            due("many()", x.many(), 1);
            due("number()", x.number(), 0);
            due("weight()", x.weight(), 0);
            due("why()", x.why(), NONE);
            x.stand(1);
            due("number(), with one in hand", x.number(), NO);
            due("weight(), with one in hand", x.weight(), NO);
            due("best(0)", x.best(0), 0);
            due("count(2), the empty one came in hand", x.count(2), 0);
            due("best(1)", x.best(1), NONE);
        });
        sentence("Terms 2", "the empty ORDER is none of the BEST ones, if one COUNTS", () -> {
            PeckYard x = hens(1);
            due("number()", x.number(), NO);
            due("weight()", x.weight(), NO);
            due("fault()", x.fault(), NO);
            due("better(1)", x.better(1), NO);
            due("best(0)", x.best(0), 1);
            same("hand", hand(x), "0");
        });
    }

    private static void wholeOnes() {
        sentence("Terms 2", "It is WHOLE, if it has each one that COUNTS just once", () -> {
            PeckYard x = hens(3);
            due("weight() of two", standing(x, 0, 1).weight(), NO);
            due("stand(1), a second time", x.stand(1), BAD);
            due("stand(2)", x.stand(2), 3);
            due("weight() of three", x.weight(), 0);
            x.hen(HEN, NOBODY);
            due("weight(), when there is one more", x.weight(), NO);
        });
        sentence("Terms 2", "and none that does not: as many as COUNT, but a GUEST for one of them", () -> {
            PeckYard x = standing(yard(HEN, HEN, GUEST), 0, 2);
            due("weight()", x.weight(), NO);
            due("number()", x.number(), NO);
            due("fault()", x.fault(), NO);
            due("better(1)", x.better(1), NO);
        });
        sentence("Terms 2", "and none that does not: all that COUNT, and a GUEST", () -> {
            PeckYard x = standing(yard(HEN, HEN, GUEST), 0, 2, 1);
            due("weight()", x.weight(), NO);
            x.take(2, 1);
            due("weight(), when it is taken in", x.weight(), 0);
            x.take(2, 0);
            due("weight(), when it is not", x.weight(), NO);
        });
        sentence("Terms 2", "A peck is UPSET, if she who pecks stands below her who is pecked", () -> {
            PeckYard x = pecking(hens(2), 0, 1, 5, 1, 0, 3);
            due("weight(), 1 below 0", standing(x, 0, 1).weight(), 3);
            due("weight(), 0 below 1", standing(x, 1, 0).weight(), 5);
        });
        sentence("Terms 2", "THE WEIGHT: of all UPSET pecks together", () -> {
            PeckYard x = pecking(hens(3), 1, 0, 1, 2, 0, 10, 2, 1, 100, 0, 1, 1000, 0, 2, 10000, 1, 2, 100000);
            due("weight(), 0 1 2", standing(x, 0, 1, 2).weight(), 111);
            due("weight(), 2 1 0", standing(x, 2, 1, 0).weight(), 111000);
            due("weight(), 1 2 0", standing(x, 1, 2, 0).weight(), 11100);
        });
        sentence("Terms 2", "in order by the first place at which they differ, the lesser number first", () -> {
            same("all of 3", bestOnes(hens(3)), "0 1 2 | 0 2 1 | 1 0 2 | 1 2 0 | 2 0 1 | 2 1 0");
            PeckYard x = hens(12);
            due("best of 12, by a number of two digits", x.best(39916800L * 9 + 3628800L * 9), 12);
            same("hand", hand(x), "9 10 0 1 2 3 4 5 6 7 8 11");
            due("number()", x.number(), 39916800L * 9 + 3628800L * 9);
        });
        sentence("Terms 2", "in order, where hens that do not COUNT are left out", () -> {
            PeckYard x = yard(GUEST, HEN, GUEST, HEN, GUEST);
            same("two", bestOnes(x), "1 3 | 3 1");
            x.take(2, 1);
            same("three", bestOnes(x), "1 2 3 | 1 3 2 | 2 1 3 | 2 3 1 | 3 1 2 | 3 2 1");
        });
    }

    private static void leastWeight() {
        sentence("Promise 12", "The least WEIGHT of a LAWFUL ORDER", () -> {
            PeckYard x = pecking(asked(PULLET, 1, HEN, NOBODY, HEN, NOBODY), 0, 1, 8, 1, 0, 3, 2, 1, 1);
            due("least()", x.least(), 8);
            same("all", bestOnes(x), "2 1 0");
        });
        sentence("Promise 12", "of one hen it is 0", () -> due("least()", pecking(hens(1), 0, 1, 9).least(), 0));
        sentence("Promise 12", "NONE: there is no LAWFUL one", () -> {
            PeckYard x = asked(PULLET, 1, PULLET, 0);
            due("least()", x.least(), NONE);
            x.ask(0, NOBODY);
            due("least(), when there is", x.least(), 0);
        });
        sentence("Promise 12", "the most that there can be", () -> {
            PeckYard x = new PeckYard();
            for (int hen = 0; hen < 12; hen++) {
                x.hen(hen == 0 ? HEN : PAIR, hen == 0 ? NOBODY : hen - 1);
                x.pen(hen, 3);
                for (int other = 0; other < hen; other++) {
                    x.peck(hen, other, 1000000);
                }
            }
            due("least()", x.least(), 66000000L);
            due("many()", x.many(), 1);
            due("loose()", x.loose(), 0);
            x.best(0);
            due("weight()", x.weight(), 66000000L);
            due("better(40)", x.better(40), 0);
        });
        sentence("Promise 12", "pecks on one that there is not, or does not COUNT, are upset by none", () -> {
            PeckYard x = pecking(asked(HEN, NOBODY, GUEST, NOBODY, OLD, 0), 0, 1, 5, 0, 7, 6, 1, 0, 7, 0, 2, 1);
            due("least()", x.least(), 1);
            due("loose()", x.loose(), 0);
        });
        sentence("Promise 12", "fewer COUNT than ahead of it, and more again", () -> {
            PeckYard x = pecking(yard(HEN, OLD, GUEST), 0, 1, 4, 0, 2, 3, 2, 0, 2, 2, 1, 9, 1, 2, 7);
            x.ask(1, 0);
            long[] leasts = {4, 14, 4, 14};
            for (int n = 0; n < leasts.length; n++) {
                x.take(2, n % 2);
                due("least()", x.least(), leasts[n]);
                due("sure(1, 0)", x.sure(1, 0), 1);
                due("many()", x.many(), 1);
                due("loose()", x.loose(), n % 2 == 0 ? 0 : 9);
            }
        });
        sentence("Promise 13", "How many BEST ORDERS there are", () -> {
            due("of one hen", hens(1).many(), 1);
            due("of 12, all", hens(12).many(), 479001600L);
            due("where there is no LAWFUL ORDER", asked(PULLET, 1, PULLET, 0).many(), 0);
            due("of three, one of whom pecks another", pecking(hens(3), 2, 0, 1).many(), 3);
        });
    }

    private static void byNumber() {
        sentence("Promise 14", "BAD: k is below 0", () -> {
            PeckYard x = hens(2);
            for (long k : new long[] {-1, -2, NONE, Long.MIN_VALUE, -4294967296L}) {
                due("best(" + k + ")", x.best(k), BAD);
            }
            due("count(2)", x.count(2), 0);
        });
        sentence("Promise 14", "NONE: there are not so many", () -> {
            PeckYard x = hens(2);
            due("best(1)", x.best(1), 2);
            same("hand", hand(x), "1 0");
            for (long k : new long[] {2, 3, 4294967296L, 4294967297L, Long.MAX_VALUE}) {
                due("best(" + k + ")", x.best(k), NONE);
            }
            same("hand", hand(x), "1 0");
        });
        sentence("Promise 14", "NONE: there are not so many, of the most that there can be", () -> {
            PeckYard x = hens(12);
            due("best(479001599)", x.best(479001599L), 12);
            same("hand", hand(x), "11 10 9 8 7 6 5 4 3 2 1 0");
            due("number()", x.number(), 479001599L);
            due("best(479001600)", x.best(479001600L), NONE);
            due("best(0)", x.best(0), 12);
            same("hand", hand(x), "0 1 2 3 4 5 6 7 8 9 10 11");
            due("number()", x.number(), 0);
        });
        sentence("Promise 14", "NONE: there is no LAWFUL one", () ->
                due("best(0)", asked(PULLET, 1, PULLET, 0).best(0), NONE));
        sentence("Promise 14", "comes IN HAND: what was there before is gone", () -> {
            PeckYard x = standing(yard(HEN, GUEST, HEN), 1, 2, 0);
            due("best(0)", x.best(0), 2);
            same("hand", hand(x), "0 2");
        });
        sentence("Promise 15", "The number of the ORDER IN HAND among the BEST ones", () -> {
            PeckYard x = pecking(hens(4), 3, 1, 2, 1, 3, 1);
            long many = x.many();
            due("many()", many, 12);
            for (int k = 0; k < many; k++) {
                x.best(k);
                due("number()", x.number(), k);
            }
        });
        sentence("Promise 15", "NO: it is not WHOLE", () -> {
            PeckYard x = standing(hens(2), 0);
            due("number()", x.number(), NO);
            x.stand(1);
            due("number()", x.number(), 0);
        });
        sentence("Promise 15", "NONE: it is none of them: too heavy", () -> {
            PeckYard x = standing(pecking(hens(2), 0, 1, 5), 1, 0);
            due("number()", x.number(), NONE);
            x.turn();
            due("number(), turned", x.number(), 0);
        });
        sentence("Promise 15", "NONE: it is none of them: not LAWFUL, however light", () -> {
            PeckYard x = standing(pecking(asked(PULLET, 1, HEN, NOBODY), 0, 1, 5), 0, 1);
            due("weight()", x.weight(), 0);
            due("number()", x.number(), NONE);
            due("least()", x.least(), 5);
        });
        sentence("Promise 15", "NONE: there is no LAWFUL ORDER", () -> {
            PeckYard x = standing(asked(PULLET, 1, PULLET, 0), 0, 1);
            due("number()", x.number(), NONE);
        });
    }

    private static void agreed() {
        sentence("Promise 16", "1 each BEST ORDER has the first one above the other, 2 below, 0 neither", () -> {
            PeckYard x = pecking(hens(3), 2, 0, 1);
            due("sure(2, 0)", x.sure(2, 0), 1);
            due("sure(0, 2)", x.sure(0, 2), 2);
            due("sure(1, 0)", x.sure(1, 0), 0);
            due("sure(0, 1)", x.sure(0, 1), 0);
        });
        sentence("Promise 16", "by what is asked, too, and by both together", () -> {
            PeckYard x = pecking(asked(PAIR, 1, HEN, NOBODY, HEN, NOBODY), 2, 0, 1);
            due("sure(1, 0)", x.sure(1, 0), 1);
            due("sure(2, 1)", x.sure(2, 1), 1);
            due("sure(1, 2)", x.sure(1, 2), 2);
        });
        sentence("Promise 16", "BAD: hens", () -> {
            PeckYard x = hens(2);
            for (int hen : new int[] {-1, 2, 11, 12, LEAST, MOST, NOBODY}) {
                due("sure(" + hen + ", 0)", x.sure(hen, 0), BAD);
                due("sure(0, " + hen + ")", x.sure(0, hen), BAD);
            }
        });
        sentence("Promise 16", "BAD: the same one", () -> {
            PeckYard x = hens(2);
            due("sure(0, 0)", x.sure(0, 0), BAD);
            due("sure(1, 1)", x.sure(1, 1), BAD);
        });
        sentence("Promise 16", "BAD: one does not COUNT", () -> {
            PeckYard x = yard(HEN, GUEST);
            due("sure(0, 1)", x.sure(0, 1), BAD);
            due("sure(1, 0)", x.sure(1, 0), BAD);
            x.take(1, 1);
            due("sure(0, 1), when it does", x.sure(0, 1), 0);
        });
        sentence("Promise 16", "NONE: there is no LAWFUL ORDER", () -> {
            PeckYard x = asked(PULLET, 1, PULLET, 0, HEN, NOBODY);
            due("sure(0, 2)", x.sure(0, 2), NONE);
            due("sure(0, 1)", x.sure(0, 1), NONE);
        });
        sentence("Promise 16", "of the least hens and of the greatest", () -> {
            PeckYard x = pecking(hens(12), 0, 1, 1, 10, 11, 1);
            due("sure(0, 1)", x.sure(0, 1), 1);
            due("sure(1, 0)", x.sure(1, 0), 2);
            due("sure(10, 11)", x.sure(10, 11), 1);
            due("sure(11, 10)", x.sure(11, 10), 2);
            due("sure(0, 11)", x.sure(0, 11), 0);
            due("sure(10, 1)", x.sure(10, 1), 0);
        });
        sentence("Promise 16", "what was sure ahead of a change is not, after it", () -> {
            PeckYard x = pecking(hens(3), 0, 1, 1);
            due("sure(0, 1)", x.sure(0, 1), 1);
            pecking(x, 1, 0, 1);
            due("sure(0, 1), as heavy both ways", x.sure(0, 1), 0);
            pecking(x, 1, 0, 2);
            due("sure(0, 1), the other way", x.sure(0, 1), 2);
            x.undo();
            x.undo();
            due("sure(0, 1), as it was", x.sure(0, 1), 1);
        });
        sentence("Promise 16", "orders that were BEST ones ahead of a change say nothing after it", () -> {
            PeckYard x = hens(3);
            due("sure(0, 1)", x.sure(0, 1), 0);
            pecking(x, 1, 0, 1, 0, 2, 5, 2, 1, 5);
            due("sure(0, 1), with 2 between them", x.sure(0, 1), 1);
            due("sure(2, 0)", x.sure(2, 0), 2);
        });
        sentence("Promise 16", "of the most that there can be", () -> {
            PeckYard x = hens(12);
            due("sure(0, 11)", x.sure(0, 11), 0);
            pecking(x, 11, 0, 1);
            due("sure(0, 11)", x.sure(0, 11), 2);
            due("sure(11, 0)", x.sure(11, 0), 1);
            due("sure(10, 0)", x.sure(10, 0), 0);
        });
    }

    private static void why(String words, PeckYard x, long want) {
        sentence("Promise 17", words, () -> {
            due("why()", x.why(), want);
            due("many() is above 0", x.many() > 0 ? 1 : 0, want == NONE ? 1 : 0);
            due("least() is NONE", x.least() == NONE ? 1 : 0, want == NONE ? 0 : 1);
        });
    }

    private static void reasons() {
        why("NONE: there is one", asked(PULLET, 1, HEN, NOBODY), NONE);
        why("NONE: there is one, the empty one", new PeckYard(), NONE);
        why("by (1) 100 and the least hen for which two ask so", asked(PAIR, 2, PAIR, 2, HEN, NOBODY), 102);
        why("by (1), of several the least hen, not the least PAIR", asked(PAIR, 5, PAIR, 4, PAIR, 5, PAIR, 4,
                HEN, NOBODY, HEN, NOBODY), 104);
        why("by (1), three ask", asked(HEN, NOBODY, PAIR, 0, PAIR, 0, PAIR, 0), 100);
        why("by (1), the greatest hen", asked(PAIR, 11, PAIR, 11, HEN, 0, HEN, 0, HEN, 0, HEN, 0, HEN, 0, HEN, 0,
                HEN, 0, HEN, 0, HEN, 0, HEN, 0), 111);
        why("two PULLETS are not two PAIRS", asked(HEN, NOBODY, PULLET, 0, PULLET, 0), NONE);
        why("a PAIR and a PULLET are not two PAIRS", asked(HEN, NOBODY, PULLET, 0, PAIR, 0), NONE);
        why("for one that COUNTS", asked(GUEST, NOBODY, PAIR, 0, PAIR, 0), NONE);
        why("for one that there is", asked(PAIR, 2, PAIR, 2), NONE);
        why("or else (2): (1) stands ahead, though its hen is greater", asked(PULLET, 1, PULLET, 0, HEN, 0,
                PAIR, 2, PAIR, 2), 102);
        why("the least hen that leads to itself", asked(HEN, 1, PULLET, 3, HEN, 0, PULLET, 1), 1);
        why("a PULLET is led to by the one that it asks for", asked(PULLET, 1, OLD, 0), NONE);
        why("to a PULLET that asks for it, and (an OLD one) to that which it asks for", asked(PULLET, 1, PULLET, 0), 0);
        why("an OLD one that asks for its PULLET leads to it twice", asked(OLD, 1, PULLET, 0), NONE);
        why("two OLD ones above each other", asked(HEN, NOBODY, OLD, 2, OLD, 1), 1);
        why("a PULLET and an OLD one: one below whom it stands above", asked(HEN, NOBODY, PULLET, 2, HEN, NOBODY,
                PULLET, 1, OLD, 0), NONE);
        why("and further on so", asked(PULLET, 1, PULLET, 2, PULLET, 3, PULLET, 4, PULLET, 5, PULLET, 6, PULLET, 7,
                PULLET, 8, PULLET, 9, PULLET, 10, PULLET, 11, PULLET, 0), 0);
        why("as far as that goes, but not round", asked(PULLET, 1, PULLET, 2, PULLET, 3, PULLET, 4, PULLET, 5,
                PULLET, 6, PULLET, 7, PULLET, 8, PULLET, 9, PULLET, 10, PULLET, 11, OLD, 0), NONE);
        why("who leads to a round, or is led to by one, is not told", asked(PULLET, 2, OLD, 3, PULLET, 3, PULLET, 2), 2);
        why("(PAIRS that ask for one another round in a ring lead to themselves.) of two", asked(HEN, 1, PAIR, 2,
                PAIR, 1), 1);
        why("(PAIRS that ask for one another round in a ring lead to themselves.) of three", asked(HEN, 1, PAIR, 3,
                PAIR, 1, PAIR, 2), 1);
        why("(PAIRS that ask for one another round in a ring lead to themselves.) of five", asked(PAIR, 4,
                PAIR, 0, PAIR, 1, PAIR, 2, PAIR, 3), 0);
        why("(PAIRS that ask for one another round in a ring lead to themselves.) of twelve", asked(PAIR, 11, PAIR, 0,
                PAIR, 1, PAIR, 2, PAIR, 3, PAIR, 4, PAIR, 5, PAIR, 6, PAIR, 7, PAIR, 8, PAIR, 9, PAIR, 10), 0);
    }

    private static void blocks() {
        why("BLOCKS: a chain of twelve PAIRS alone", asked(HEN, NOBODY, PAIR, 0, PAIR, 1, PAIR, 2, PAIR, 3, PAIR, 4,
                PAIR, 5, PAIR, 6, PAIR, 7, PAIR, 8, PAIR, 9, PAIR, 10), NONE);
        why("all hens of a BLOCK lead to what one of them leads to outside of it: the PAIR leads, the head is led to",
                asked(HEN, NOBODY, PULLET, 3, PAIR, 1, PULLET, 2), 1);
        why("what leads to one of them leads to all: the PAIR is led to, the head leads",
                asked(HEN, NOBODY, OLD, 3, PAIR, 1, OLD, 2), 1);
        why("it may be above all of the BLOCK", asked(HEN, NOBODY, PULLET, 3, PAIR, 1, OLD, 2), NONE);
        why("it may be below all of the BLOCK", asked(HEN, NOBODY, OLD, 3, PAIR, 1, PULLET, 2), NONE);
        why("of a chain of three: the first leads, the third is led to", asked(PAIR, 1, PAIR, 3, OLD, 0, OLD, 2), 0);
        why("of a chain of three: the third leads, the first is led to", asked(PAIR, 1, PAIR, 3, PULLET, 0,
                PULLET, 2), 0);
        why("one between the two of a BLOCK: above the PAIR, below the head", asked(PAIR, 2, OLD, 0, OLD, 1), 0);
        why("two BLOCKS, each above the other", asked(OLD, 3, PAIR, 0, OLD, 1, PAIR, 2), 0);
        why("two BLOCKS, one above the other", asked(OLD, 3, PAIR, 0, HEN, 1, PAIR, 2), NONE);
        why("three BLOCKS round", asked(OLD, 3, PAIR, 0, OLD, 5, PAIR, 2, OLD, 1, PAIR, 4), 0);
        why("a PAIR below one that is not looked at is a head", asked(PAIR, 11, PAIR, 0, OLD, 1, PULLET, 2), NONE);
        why("a PULLET that asks for its own PAIR", asked(HEN, NOBODY, PULLET, 2, PAIR, 1), 1);
        why("an OLD one that asks for its own PAIR", asked(HEN, NOBODY, OLD, 2, PAIR, 1), NONE);
        sentence("Terms 2", "the PAIRS (that COUNT): all PAIRS do; a BLOCK whose head does not is without it", () -> {
            PeckYard x = asked(GUEST, NOBODY, PAIR, 0, PULLET, 1, OLD, 0);
            x.take(0, 1);
            due("why(), taken in", x.why(), NONE);
            same("all, taken in", bestOnes(x), "3 0 1 2");
            x.take(0, 0);
            same("all, not taken in", bestOnes(x), "1 2 3 | 1 3 2 | 3 1 2");
        });
    }

    public static void main(String[] args) {
        empty();
        wholeOnes();
        leastWeight();
        byNumber();
        agreed();
        reasons();
        blocks();
        finish();
    }
}
