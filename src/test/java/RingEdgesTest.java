/** The sentences of 'Terms' 3 and 4 and of promises 26 to 31 that name a boundary case, one by one. */
public final class RingEdgesTest extends Edges {
    private static void whoIsOfOneGroup() {
        sentence("Promise 26", "How many GROUPS there are", () -> {
            due("groups() of none", new PeckYard().groups(), 0);
            due("groups() of a GUEST", yard(GUEST).groups(), 0);
            due("groups() of one", hens(1).groups(), 1);
            due("groups() of 12 without pecks", hens(12).groups(), 12);
        });
        sentence("Terms 3", "if pecks lead from each to the other: one way is not enough", () -> {
            PeckYard x = pecking(hens(2), 0, 1, 5);
            due("groups()", x.groups(), 2);
            pecking(x, 1, 0, 1);
            due("groups(), both ways", x.groups(), 1);
        });
        sentence("Terms 3", "(above 0)", () -> {
            PeckYard x = pecking(hens(2), 0, 1, 5, 1, 0, 0);
            due("groups()", x.groups(), 2);
            pecking(x, 1, 0, 1);
            due("groups(), 1", x.groups(), 1);
            pecking(x, 1, 0, 0);
            due("groups(), 0 again", x.groups(), 2);
        });
        sentence("Terms 3", "(of those that COUNT): no way by one that does not", () -> {
            PeckYard x = pecking(yard(HEN, GUEST, HEN), 0, 1, 1, 1, 2, 1, 2, 0, 1);
            same("groups", groups(x), "1 - 0");
            due("groups()", x.groups(), 2);
            x.take(1, 1);
            same("groups, taken in", groups(x), "0 0 0");
            due("groups()", x.groups(), 1);
        });
        sentence("Terms 3", "(of those that COUNT): no way by one that there is not", () -> {
            PeckYard x = pecking(hens(2), 0, 11, 1, 1, 0, 1);
            same("groups", groups(x), "1 0");
        });
        sentence("Terms 3", "by however many: round by all 12", () -> {
            PeckYard x = hens(12);
            for (int hen = 0; hen < 12; hen++) {
                pecking(x, hen, (hen + 7) % 12, 1);
            }
            due("groups()", x.groups(), 1);
            pecking(x, 5, 0, 0);
            due("groups(), with one peck less", x.groups(), 12);
            due("groupOf(0), the first of the row", x.groupOf(0), 0);
            due("groupOf(7), the second", x.groupOf(7), 1);
            due("groupOf(5), the last", x.groupOf(5), 11);
        });
    }

    private static void numbersOfGroups() {
        sentence("Terms 3", "GROUPS are numbered from 0: without pecks as their hens are", () ->
                same("groups", groups(hens(4)), "0 1 2 3"));
        sentence("Terms 3", "the next one is that, of those into which no peck comes, which has the least hen", () -> {
            same("2 pecks 0", groups(pecking(hens(3), 2, 0, 1)), "2 0 1");
            same("0 is last, though it is the least", groups(pecking(hens(3), 1, 0, 1, 2, 1, 1)), "2 1 0");
            same("a GROUP of 1 and 3 goes by its 1", groups(pecking(hens(4), 1, 3, 1, 3, 1, 1, 2, 0, 1)), "2 0 1 0");
        });
        sentence("Terms 3", "from a GROUP without a number: pecks of those that have one are not looked at", () ->
                same("groups", groups(pecking(hens(4), 3, 0, 1, 0, 1, 1)), "2 3 0 1"));
        sentence("Terms 3", "(So no peck goes from a GROUP to one of a lesser number.)", () -> {
            PeckYard x = pecking(hens(6), 5, 4, 1, 4, 5, 1, 4, 0, 1, 0, 1, 1, 1, 2, 1, 2, 0, 1, 2, 3, 1);
            for (int hen = 0; hen < 6; hen++) {
                for (int other = 0; other < 6; other++) {
                    if (hen != other && x.pecks(hen, other) > 0 && x.groupOf(hen) > x.groupOf(other)) {
                        due("pecks(" + hen + ", " + other + ")", x.pecks(hen, other), 0);
                    }
                }
            }
            same("groups", groups(x), "1 1 1 2 0 0");
        });
        sentence("Promise 27", "BAD: there is no such hen", () -> {
            PeckYard x = hens(2);
            for (int hen : new int[] {-1, 2, 11, 12, LEAST, MOST, NOBODY}) {
                due("groupOf(" + hen + ")", x.groupOf(hen), BAD);
            }
        });
        sentence("Promise 27", "NONE: it does not COUNT", () -> {
            PeckYard x = yard(HEN, GUEST);
            due("groupOf(1)", x.groupOf(1), NONE);
            x.take(1, 1);
            due("groupOf(1), taken in", x.groupOf(1), 1);
            x.take(1, 0);
            due("groupOf(1), not", x.groupOf(1), NONE);
        });
        sentence("Promise 28", "any WHOLE ORDER, whatever is asked", () -> {
            PeckYard x = pecking(asked(PULLET, 1, PULLET, 0), 0, 1, 8, 1, 0, 3);
            due("loose(), though none is LAWFUL", x.loose(), 3);
            due("least()", x.least(), NONE);
            due("loose() of none", new PeckYard().loose(), 0);
            due("loose() of a GUEST", pecking(yard(GUEST, HEN), 0, 1, 5, 1, 0, 5).loose(), 0);
            due("loose() of one", pecking(hens(1), 0, 1, 5).loose(), 0);
        });
    }

    private static void packing() {
        sentence("Promise 29", "THE BOUND of no rings", () -> {
            PeckYard x = new PeckYard();
            due("pack() of none", x.pack(), 0);
            due("count(4)", x.count(4), 0);
            due("pack() of one", pecking(hens(1), 0, 1, 5).pack(), 0);
            due("pack() without a ring", pecking(hens(3), 0, 1, 5, 1, 2, 5, 0, 2, 5).pack(), 0);
        });
        sentence("Terms 4", "two at least", () -> {
            PeckYard x = pecking(hens(2), 0, 1, 7, 1, 0, 4);
            due("pack()", x.pack(), 4);
            same("rings", rings(x), "4: 0 1");
        });
        sentence("Terms 4", "hens that COUNT", () -> {
            PeckYard x = pecking(yard(HEN, GUEST), 0, 1, 7, 1, 0, 4);
            due("pack()", x.pack(), 0);
            x.take(1, 1);
            due("pack(), taken in", x.pack(), 4);
        });
        sentence("Terms 4", "each of whom pecks the next one: a peck of 0 is none", () -> {
            PeckYard x = pecking(hens(2), 0, 1, 7, 1, 0, 0);
            due("pack()", x.pack(), 0);
            due("count(4)", x.count(4), 0);
        });
        sentence("Terms 4", "no one twice: two rings that share a hen are two", () -> {
            PeckYard x = pecking(hens(3), 0, 1, 2, 1, 0, 2, 1, 2, 3, 2, 1, 3);
            due("pack()", x.pack(), 5);
            same("rings", rings(x), "2: 0 1 | 3: 1 2");
        });
        sentence("Terms 4", "of all 12", () -> {
            PeckYard x = hens(12);
            for (int hen = 0; hen < 12; hen++) {
                pecking(x, hen, (hen + 11) % 12, 5 + hen);
            }
            due("pack()", x.pack(), 5);
            same("rings", rings(x), "5: 0 11 10 9 8 7 6 5 4 3 2 1");
        });
        sentence("Terms 4", "the ring of the fewest hens is taken", () -> {
            PeckYard x = pecking(hens(5), 0, 1, 9, 1, 2, 9, 2, 0, 9, 3, 4, 1, 4, 3, 1);
            due("pack()", x.pack(), 10);
            same("rings", rings(x), "1: 3 4 | 9: 0 1 2");
        });
        sentence("Terms 4", "(of several the first, told from its least hen on, in order): by the least hen", () -> {
            PeckYard x = pecking(hens(4), 3, 2, 1, 2, 3, 1, 1, 0, 1, 0, 1, 1);
            x.pack();
            same("rings", rings(x), "1: 0 1 | 1: 2 3");
        });
        sentence("Terms 4", "(of several the first, told from its least hen on, in order): by the second", () -> {
            PeckYard x = pecking(hens(3), 0, 2, 3, 2, 0, 3, 0, 1, 1, 1, 0, 1);
            x.pack();
            same("rings", rings(x), "1: 0 1 | 3: 0 2");
        });
        sentence("Terms 4", "(of several the first, told from its least hen on, in order): by the third", () -> {
            PeckYard x = pecking(hens(4), 0, 1, 9, 1, 3, 5, 3, 0, 5, 1, 2, 2, 2, 0, 2);
            x.pack();
            same("rings", rings(x), "2: 0 1 2 | 5: 0 1 3");
        });
        sentence("Terms 4", "told from its least hen on: the way that the pecks go", () -> {
            PeckYard x = pecking(hens(4), 1, 3, 4, 3, 2, 4, 2, 1, 4);
            x.pack();
            same("rings", rings(x), "4: 1 3 2");
        });
        sentence("Terms 4", "its SHARE is the least of its pecks that are left, which are as much less", () -> {
            PeckYard x = pecking(hens(3), 0, 1, 5, 1, 0, 2, 1, 2, 9, 2, 0, 9);
            due("pack()", x.pack(), 5);
            same("rings", rings(x), "2: 0 1 | 3: 0 1 2");
            due("pecks(0, 1), which is not less itself", x.pecks(0, 1), 5);
            due("pack(), again from all", x.pack(), 5);
        });
        sentence("Terms 4", "THE BOUND: the most that there can be", () -> {
            PeckYard x = heaviest();
            due("pack()", x.pack(), 66000000L);
            due("count(4)", x.count(4), 66);
            same("the first", ring(x, 0), "1000000: 0 1");
            same("the last", ring(x, 65), "1000000: 10 11");
            due("ring(66, 0)", x.ring(66, 0), NONE);
            due("least()", x.least(), 66000000L);
        });
        sentence("Terms 4", "(It is never above the least WEIGHT of an ORDER.) it may be below", () -> {
            PeckYard x = pecking(hens(5), 0, 3, 1, 1, 0, 1, 1, 4, 2, 2, 0, 2, 3, 1, 1, 3, 2, 1, 4, 3, 1);
            due("pack(), the first ring stands in the way of two others", x.pack(), 1);
            same("rings", rings(x), "1: 0 3 1");
            due("loose()", x.loose(), 2);
        });
    }

    private static PeckYard heaviest() {
        PeckYard x = hens(12);
        for (int hen = 0; hen < 12; hen++) {
            x.pen(hen, 3);
            for (int other = 0; other < 12; other++) {
                x.peck(hen, other, 1000000);
            }
        }
        return x;
    }

    private static void keptRings() {
        sentence("Promise 29", "and kept till the next pack()", () -> {
            PeckYard x = pecking(yard(HEN, GUEST), 0, 1, 7, 1, 0, 4);
            x.take(1, 1);
            x.pack();
            x.take(1, 0);
            x.least();
            x.begin();
            same("rings", rings(x), "4: 0 1");
            for (int n = 0; n < 8; n++) {
                x.undo();
            }
            due("count(0)", x.count(0), 0);
            same("rings, when there are no hens", rings(x), "4: 0 1");
            due("pack()", x.pack(), 0);
            due("count(4)", x.count(4), 0);
            due("ring(0, 0)", x.ring(0, 0), NONE);
        });
        sentence("Promise 29", "packed anew, from the pecks as they are then", () -> {
            PeckYard x = pecking(hens(3), 0, 1, 7, 1, 0, 4, 1, 2, 9);
            due("pack()", x.pack(), 4);
            pecking(x, 0, 1, 0);
            due("pack(), without the peck that was not used up", x.pack(), 0);
            due("count(4)", x.count(4), 0);
            pecking(x, 2, 1, 8);
            due("pack(), with another ring", x.pack(), 8);
            same("rings", rings(x), "8: 1 2");
            PeckYard y = pecking(hens(2), 0, 1, 4, 1, 0, 7);
            due("pack()", y.pack(), 4);
            pecking(y, 1, 0, 0);
            due("pack(), without the other peck that was not used up", y.pack(), 0);
            due("count(4)", y.count(4), 0);
        });
        sentence("Promise 30", "what 0 its SHARE, 1 how many hens, 2 and above: hen what - 2 of it", () -> {
            PeckYard x = pecking(hens(4), 1, 3, 4, 3, 2, 5, 2, 1, 6);
            x.pack();
            long[] told = {4, 3, 1, 3, 2, NONE, NONE};
            for (int what = 0; what < told.length; what++) {
                due("ring(0, " + what + ")", x.ring(0, what), told[what]);
            }
        });
        sentence("Promise 30", "BAD: i, what is below 0", () -> {
            PeckYard x = pecking(hens(2), 0, 1, 1, 1, 0, 1);
            x.pack();
            for (int below : new int[] {-1, -2, LEAST, LEAST + 1, NOBODY}) {
                due("ring(" + below + ", 0)", x.ring(below, 0), BAD);
                due("ring(0, " + below + ")", x.ring(0, below), BAD);
                due("ring(9, " + below + ")", x.ring(9, below), BAD);
                due("ring(" + below + ", 99)", x.ring(below, 99), BAD);
            }
        });
        sentence("Promise 30", "NONE: there is none such: no such ring", () -> {
            PeckYard x = pecking(hens(2), 0, 1, 1, 1, 0, 1);
            due("ring(0, 0), ahead of pack()", x.ring(0, 0), NONE);
            x.pack();
            due("ring(0, 0)", x.ring(0, 0), 1);
            for (int i : new int[] {1, 2, 131, 132, 133, MOST}) {
                due("ring(" + i + ", 0)", x.ring(i, 0), NONE);
                due("ring(" + i + ", 2)", x.ring(i, 2), NONE);
            }
        });
        sentence("Promise 30", "NONE: there is none such: no such hen of it, though the next ring has hens", () -> {
            PeckYard x = pecking(hens(5), 0, 1, 1, 1, 0, 1, 2, 3, 1, 3, 4, 1, 4, 2, 1);
            x.pack();
            due("ring(0, 3)", x.ring(0, 3), 1);
            for (int what : new int[] {4, 5, 13, 14, 15, 16, MOST, MOST - 1}) {
                due("ring(0, " + what + ")", x.ring(0, what), NONE);
            }
            due("ring(1, 4)", x.ring(1, 4), 4);
            due("ring(1, 5)", x.ring(1, 5), NONE);
        });
        sentence("Promise 30", "NONE: there is none such: fewer hens than in the ring that was there before", () -> {
            PeckYard x = pecking(hens(3), 0, 1, 1, 1, 2, 1, 2, 0, 1);
            x.pack();
            due("ring(0, 4)", x.ring(0, 4), 2);
            pecking(x, 1, 0, 1);
            x.pack();
            due("ring(0, 1)", x.ring(0, 1), 2);
            due("ring(0, 4)", x.ring(0, 4), NONE);
        });
    }

    private static void counts() {
        sentence("Promise 31", "BAD", () -> {
            PeckYard x = hens(1);
            for (int what : new int[] {-1, 7, 8, LEAST, MOST, NOBODY}) {
                due("count(" + what + ")", x.count(what), BAD);
            }
        });
        sentence("Promise 31", "0 hens, 1 that COUNT", () -> {
            PeckYard x = yard(HEN, GUEST, GUEST);
            due("count(0)", x.count(0), 3);
            due("count(1)", x.count(1), 1);
            x.take(2, 1);
            due("count(1)", x.count(1), 2);
            x.undo();
            due("count(1)", x.count(1), 1);
            due("count(0) of 12", hens(12).count(0), 12);
            due("count(1) of 12", hens(12).count(1), 12);
        });
        sentence("Promise 31", "2 of the ORDER IN HAND, whether or not they COUNT", () -> {
            PeckYard x = standing(yard(HEN, GUEST, HEN), 1, 0);
            due("count(2)", x.count(2), 2);
            x.undo();
            x.undo();
            due("count(2), of one that there is no more", x.count(2), 2);
            x.begin();
            due("count(2)", x.count(2), 0);
        });
        sentence("Promise 31", "3 changes that are kept", () -> {
            due("count(3) of 7", hens(7).count(3), 7);
            due("count(3) of 8", hens(8).count(3), 8);
            due("count(3) of 9", hens(9).count(3), 8);
        });
        sentence("Promise 31", "4 rings that are kept", () -> {
            PeckYard x = pecking(hens(3), 0, 1, 1, 1, 0, 1, 0, 2, 1, 2, 0, 1);
            due("count(4), ahead of pack()", x.count(4), 0);
            x.pack();
            due("count(4)", x.count(4), 2);
            x.leave(0);
            due("count(4), when they are no rings any more", x.count(4), 2);
            x.pack();
            due("count(4), packed anew", x.count(4), 0);
        });
        sentence("Promise 31", "5 all pecks (of those that COUNT, by weight)", () -> {
            PeckYard x = pecking(yard(HEN, HEN, GUEST), 0, 1, 5, 1, 0, 2, 2, 0, 7);
            due("count(5)", x.count(5), 7);
            x.take(2, 1);
            due("count(5), with the GUEST", x.count(5), 14);
            x.leave(0);
            due("count(5), without a PEN", x.count(5), 9);
            due("count(5), the most that there can be", heaviest().count(5), 132000000L);
        });
        sentence("Promise 31", "6 PENS that are not MISSING, whether or not the hen COUNTS", () -> {
            PeckYard x = yard(HEN, GUEST, HEN);
            due("count(6)", x.count(6), 0);
            x.pen(1, 0);
            due("count(6), of a GUEST", x.count(6), 1);
            x.pen(1, 3);
            due("count(6), of one that is new", x.count(6), 1);
            x.pen(2, 0);
            due("count(6)", x.count(6), 2);
            x.leave(1);
            due("count(6)", x.count(6), 1);
            x.undo();
            due("count(6)", x.count(6), 2);
        });
    }

    public static void main(String[] args) {
        whoIsOfOneGroup();
        numbersOfGroups();
        packing();
        keptRings();
        counts();
        finish();
    }
}
