/** The sentences on CHANGES ('Terms' 5, promise 11) and on calls that are refused, one by one. */
public final class ChangeEdgesTest extends Edges {
    interface Call {
        long on(PeckYard x);
    }

    /** A yard in which each call can be refused: three hens, a GUEST, a PEN, pecks, an order in hand, rings. */
    private static PeckYard busyYard() {
        PeckYard x = asked(HEN, NOBODY, PAIR, 0, GUEST, 1);
        x.pen(0, 3);
        x.pen(1, 3);
        x.peck(0, 1, 5);
        x.peck(1, 0, 3);
        x.peck(1, 11, 6);
        x.pack();
        standing(x, 1, 0);
        return x;
    }

    /** All that a call may have changed, and then what the kept changes bring back one by one. */
    private static String allOf(PeckYard x) {
        StringBuilder told = new StringBuilder();
        told.append(flock(x, 4)).append(hand(x)).append("; ").append(rings(x)).append("; ");
        for (int what = 0; what <= 6; what++) {
            told.append(x.count(what)).append(" ");
        }
        told.append(x.least()).append(" ").append(x.many()).append(" ").append(x.weight()).append(" ");
        told.append(x.fault()).append(" ").append(x.groups()).append(" ").append(x.loose());
        for (long kept = x.undo(); kept >= 0; kept = x.undo()) {
            told.append("\n  ").append(kept).append(flock(x, 4));
        }
        return told.append("\n  ").append(hand(x)).append("; ").append(rings(x)).toString();
    }

    private static void refused(String call, long answer, Call refusedCall) {
        sentence("Terms", "A call that is refused changes nothing", () -> {
            PeckYard x = busyYard();
            due(call, refusedCall.on(x), answer);
            same("the yard after " + call, allOf(x), allOf(busyYard()));
        });
    }

    private static void refusedCalls() {
        refused("hen(5, NONE)", BAD, x -> x.hen(5, NOBODY));
        refused("hen(1, its own)", BAD, x -> x.hen(PULLET, 3));
        refused("hen(1, 12)", BAD, x -> x.hen(PULLET, 12));
        refused("ask(3, 0)", BAD, x -> x.ask(3, 0));
        refused("ask(1, 1)", BAD, x -> x.ask(1, 1));
        refused("ask(1, 12)", BAD, x -> x.ask(1, 12));
        refused("take(3, 1)", BAD, x -> x.take(3, 1));
        refused("take(2, 2)", BAD, x -> x.take(2, 2));
        refused("take(0, 1)", NO, x -> x.take(0, 1));
        refused("take(0, 0)", NO, x -> x.take(0, 0));
        refused("pen(3, 0)", BAD, x -> x.pen(3, 0));
        refused("pen(0, 4)", BAD, x -> x.pen(0, 4));
        refused("peck(3, 0, 1)", BAD, x -> x.peck(3, 0, 1));
        refused("peck(0, 0, 1)", BAD, x -> x.peck(0, 0, 1));
        refused("peck(0, 12, 1)", BAD, x -> x.peck(0, 12, 1));
        refused("peck(0, 1, 1000001)", BAD, x -> x.peck(0, 1, 1000001));
        refused("peck(0, 1, -1)", BAD, x -> x.peck(0, 1, -1));
        refused("peck(2, 1, 9)", NO, x -> x.peck(2, 1, 9));
        refused("leave(3)", BAD, x -> x.leave(3));
        refused("leave(2)", NO, x -> x.leave(2));
        refused("about(3, 0)", BAD, x -> x.about(3, 0));
        refused("isOf(0, 5)", BAD, x -> x.isOf(0, 5));
        refused("pecks(0, 0)", BAD, x -> x.pecks(0, 0));
        refused("best(-1)", BAD, x -> x.best(-1));
        refused("sure(0, 2)", BAD, x -> x.sure(0, 2));
        refused("stand(3)", BAD, x -> x.stand(3));
        refused("stand(0), which stands there", BAD, x -> x.stand(0));
        refused("order(2)", BAD, x -> x.order(2));
        refused("move(0, 2)", BAD, x -> x.move(0, 2));
        refused("move(2, 0)", BAD, x -> x.move(2, 0));
        refused("move(-1, 0)", BAD, x -> x.move(-1, 0));
        refused("better(0)", BAD, x -> x.better(0));
        refused("better(41)", BAD, x -> x.better(41));
        refused("groupOf(3)", BAD, x -> x.groupOf(3));
        refused("ring(-1, 0)", BAD, x -> x.ring(-1, 0));
        refused("count(7)", BAD, x -> x.count(7));
    }

    private static void refusedElsewhere() {
        sentence("Terms", "A call that is refused changes nothing: hen(), FULL", () -> {
            PeckYard x = hens(12);
            due("hen", x.hen(GUEST, 3), FULL);
            due("count(0)", x.count(0), 12);
            due("count(3)", x.count(3), 8);
            due("about(11, 0)", x.about(11, 0), HEN);
            due("undo()", x.undo(), 7);
            due("count(0)", x.count(0), 11);
        });
        sentence("Terms", "A call that is refused changes nothing: undo(), NO", () -> {
            PeckYard x = hens(1);
            x.undo();
            due("undo()", x.undo(), NO);
            due("undo()", x.undo(), NO);
            due("count(3)", x.count(3), 0);
            due("hen", x.hen(HEN, NOBODY), 0);
            due("count(3)", x.count(3), 1);
            due("undo()", x.undo(), 0);
            due("count(0)", x.count(0), 0);
        });
        sentence("Terms", "A call that is refused changes nothing: better(), number(), weight(), fault(), NO", () -> {
            PeckYard x = standing(pecking(hens(3), 0, 1, 5), 1, 0);
            due("better(1)", x.better(1), NO);
            due("number()", x.number(), NO);
            due("weight()", x.weight(), NO);
            due("fault()", x.fault(), NO);
            same("hand", hand(x), "1 0");
        });
        sentence("Terms", "NONE: there is none; and nothing is changed by it", () -> {
            PeckYard x = standing(hens(2), 1, 0);
            due("best(2)", x.best(2), NONE);
            due("best(greatest)", x.best(Long.MAX_VALUE), NONE);
            same("hand", hand(x), "1 0");
            due("ring(0, 0)", x.ring(0, 0), NONE);
            due("count(3)", x.count(3), 2);
        });
    }

    private static void whichOfSeveral() {
        sentence("Terms", "of several the one that stands first here: BAD ahead of NO", () -> {
            PeckYard x = yard(HEN, HEN);
            due("take(0, 2), no GUEST", x.take(0, 2), BAD);
            due("peck(0, 0, 1), MISSING", x.peck(0, 0, 1), BAD);
            due("peck(0, 1, 1000001), MISSING", x.peck(0, 1, 1000001), BAD);
            due("better(0), not WHOLE", x.better(0), BAD);
            due("better(41), not WHOLE", x.better(41), BAD);
        });
        sentence("Terms", "of several the one that stands first here: BAD ahead of FULL", () -> {
            PeckYard x = hens(12);
            due("hen(5, NONE)", x.hen(5, NOBODY), BAD);
            due("hen(-1, NONE)", x.hen(-1, NOBODY), BAD);
            due("hen(0, 12)", x.hen(HEN, 12), BAD);
            due("hen(0, -1)", x.hen(HEN, -1), BAD);
            standing(x, 0, 1, 2, 3, 4, 5, 6, 7, 8, 9, 10, 11);
            due("stand(3), which stands there", x.stand(3), BAD);
            due("stand(12)", x.stand(12), BAD);
        });
        sentence("Terms", "BAD is refused, whether or not there is none", () -> {
            PeckYard x = asked(PULLET, 1, PULLET, 0);
            due("best(-1)", x.best(-1), BAD);
            due("sure(0, 0)", x.sure(0, 0), BAD);
            due("sure(0, 2)", x.sure(0, 2), BAD);
            due("ring(0, -1)", x.ring(0, -1), BAD);
            due("ring(-1, 0)", x.ring(-1, 0), BAD);
            due("groupOf(2)", x.groupOf(2), BAD);
        });
        sentence("Terms", "NO is refused, whether or not there is none", () -> {
            PeckYard x = asked(PULLET, 1, PULLET, 0);
            due("number(), not WHOLE, no LAWFUL ORDER", x.number(), NO);
            standing(x, 0, 1);
            due("number(), WHOLE", x.number(), NONE);
        });
    }

    private static void whatIsAChange() {
        sentence("Terms 5", "CHANGES are the calls of hen, ask, take, pen, peck, leave", () -> {
            PeckYard x = new PeckYard();
            x.hen(GUEST, NOBODY);
            due("after hen", x.count(3), 1);
            x.ask(0, 1);
            due("after ask", x.count(3), 2);
            x.take(0, 1);
            due("after take", x.count(3), 3);
            x.pen(0, 0);
            due("after pen", x.count(3), 4);
            x.peck(0, 1, 1);
            due("after peck", x.count(3), 5);
            x.leave(0);
            due("after leave", x.count(3), 6);
        });
        sentence("Terms 5", "that are not refused, even if all stays as it was", () -> {
            PeckYard x = yard(GUEST);
            x.ask(0, NOBODY);
            due("after ask", x.count(3), 2);
            x.take(0, 0);
            due("after take", x.count(3), 3);
            x.pen(0, 0);
            x.pen(0, 0);
            due("after pen twice", x.count(3), 5);
            x.peck(0, 1, 0);
            due("after peck", x.count(3), 6);
            due("undo()", x.undo(), 5);
            due("undo()", x.undo(), 4);
            due("about(0, 3)", x.about(0, 3), 0);
            due("undo()", x.undo(), 3);
            due("about(0, 3)", x.about(0, 3), NONE);
        });
        sentence("Terms 5", "no other call is one", () -> {
            PeckYard x = pecking(yard(HEN, HEN), 0, 1, 3, 1, 0, 2);
            x.least();
            x.many();
            x.best(0);
            x.number();
            x.sure(0, 1);
            x.why();
            x.begin();
            x.stand(1);
            x.stand(0);
            x.order(0);
            x.move(0, 1);
            x.turn();
            x.weight();
            x.fault();
            x.better(3);
            x.groups();
            x.groupOf(0);
            x.loose();
            x.pack();
            x.ring(0, 0);
            x.about(0, 0);
            x.isOf(0, 0);
            x.pecks(0, 1);
            due("count(3)", x.count(3), 6);
            due("undo()", x.undo(), 5);
            due("pecks(1, 0)", x.pecks(1, 0), 0);
        });
    }

    private static void howManyAreKept() {
        sentence("Terms 5", "the latest 8 are kept: not 7", () -> {
            PeckYard x = hens(8);
            due("count(3)", x.count(3), 8);
            for (int kept = 7; kept >= 0; kept--) {
                due("undo()", x.undo(), kept);
                due("count(0)", x.count(0), kept);
            }
            due("undo()", x.undo(), NO);
        });
        sentence("Terms 5", "the latest 8 are kept: not 9", () -> {
            PeckYard x = hens(9);
            due("count(3)", x.count(3), 8);
            for (int kept = 7; kept >= 0; kept--) {
                due("undo()", x.undo(), kept);
            }
            due("undo()", x.undo(), NO);
            due("count(0)", x.count(0), 1);
        });
        sentence("Terms 5", "the latest 8 are kept: also when the oldest have gone many times over", () -> {
            PeckYard x = hens(2);
            x.pen(0, 1);
            for (int weight = 1; weight <= 100; weight++) {
                due("peck", x.peck(0, 1, weight), weight - 1);
                due("count(3)", x.count(3), Math.min(8, 3 + weight));
            }
            for (int kept = 7; kept >= 0; kept--) {
                due("undo()", x.undo(), kept);
                due("pecks(0, 1)", x.pecks(0, 1), 92 + kept);
            }
            due("undo()", x.undo(), NO);
            due("pecks(0, 1)", x.pecks(0, 1), 92);
        });
        sentence("Terms 5", "the latest 8 are kept: changes and undos in turns", () -> {
            PeckYard x = hens(1);
            x.pen(0, 1);
            for (int weight = 1; weight <= 20; weight++) {
                x.peck(0, 1, weight);
            }
            for (int n = 0; n < 3; n++) {
                x.undo();
            }
            due("count(3)", x.count(3), 5);
            for (int weight = 101; weight <= 102; weight++) {
                x.peck(0, 1, weight);
            }
            due("count(3)", x.count(3), 7);
            long[] were = {101, 17, 16, 15, 14, 13, 12};
            for (int n = 0; n < were.length; n++) {
                due("undo()", x.undo(), 6 - n);
                due("pecks(0, 1)", x.pecks(0, 1), were[n]);
            }
            due("undo()", x.undo(), NO);
        });
        sentence("Terms 5", "what was taken back is not kept", () -> {
            PeckYard x = pecking(hens(2), 0, 1, 5);
            due("undo()", x.undo(), 3);
            due("count(3)", x.count(3), 3);
            due("undo()", x.undo(), 2);
            due("about(0, 3)", x.about(0, 3), NONE);
        });
    }

    private static void takingBack() {
        sentence("Promise 11", "how many are kept still", () -> {
            PeckYard x = hens(3);
            due("undo()", x.undo(), 2);
            due("undo()", x.undo(), 1);
            due("undo()", x.undo(), 0);
        });
        sentence("Promise 11", "NO: none is kept", () -> {
            due("undo() of a new object", new PeckYard().undo(), NO);
            PeckYard x = hens(12);
            for (int n = 0; n < 8; n++) {
                x.undo();
            }
            due("undo() of the ninth latest", x.undo(), NO);
            due("count(0)", x.count(0), 4);
        });
        takenBack("hen", x -> x.hen(OLD, 0));
        takenBack("ask", x -> x.ask(1, 2));
        takenBack("ask for nobody", x -> x.ask(1, NOBODY));
        takenBack("take", x -> x.take(2, 1));
        takenBack("pen, a new one", x -> x.pen(2, 3));
        takenBack("pen of another WIDTH", x -> x.pen(0, 0));
        takenBack("pen of the same WIDTH", x -> x.pen(0, 3));
        takenBack("peck", x -> x.peck(0, 2, 1000000));
        takenBack("peck of 0", x -> x.peck(0, 1, 0));
        takenBack("peck on the last of the row", x -> x.peck(0, 11, 8));
        takenBack("leave", x -> x.leave(0));
        takenBack("leave of a PEN that has the last of the row", x -> x.leave(1));
        sentence("Promise 11", "The latest change is taken back: a GUEST that was taken in is so again", () -> {
            PeckYard x = yard(HEN, GUEST);
            x.take(1, 1);
            x.take(1, 0);
            due("undo()", x.undo(), 3);
            due("about(1, 2)", x.about(1, 2), 1);
            x.ask(1, 0);
            x.pen(1, 0);
            x.undo();
            x.undo();
            due("about(1, 2), after other changes of it", x.about(1, 2), 1);
            due("count(1)", x.count(1), 2);
            due("undo()", x.undo(), 2);
            due("about(1, 2)", x.about(1, 2), 0);
        });
        sentence("Promise 11", "The latest change is taken back: other hens stay as they are", () -> {
            PeckYard x = pecking(hens(3), 0, 1, 4, 2, 1, 6);
            x.ask(1, 2);
            x.undo();
            due("pecks(0, 1)", x.pecks(0, 1), 4);
            due("pecks(2, 1)", x.pecks(2, 1), 6);
            x.undo();
            due("pecks(2, 1)", x.pecks(2, 1), 0);
            due("pecks(0, 1)", x.pecks(0, 1), 4);
        });
        sentence("Promise 11", "a peck on one that is taken back stays in the PEN", () -> {
            PeckYard x = pecking(hens(1), 0, 1, 7);
            x.hen(HEN, NOBODY);
            due("count(5)", x.count(5), 7);
            x.undo();
            due("count(5)", x.count(5), 0);
            due("pecks(0, 1)", x.pecks(0, 1), 7);
        });
        sentence("Promise 11", "hens and pecks are as they were: the ORDER IN HAND is left", () -> {
            PeckYard x = standing(hens(3), 2, 0, 1);
            x.undo();
            same("hand", hand(x), "2 0 1");
            due("weight(), of one that there is no more", x.weight(), NO);
            due("stand(2)", x.stand(2), BAD);
            x.hen(HEN, NOBODY);
            due("weight(), of one that there is again", x.weight(), 0);
        });
        sentence("Promise 11", "hens and pecks are as they were: the rings that are kept are left", () -> {
            PeckYard x = pecking(hens(2), 0, 1, 4, 1, 0, 3);
            x.pack();
            x.undo();
            same("rings", rings(x), "3: 0 1");
            due("pack()", x.pack(), 0);
        });
        sentence("Promise 11", "answers that were worked out ahead of it are as they were, too", () -> {
            PeckYard x = pecking(asked(HEN, NOBODY, PULLET, 0, HEN, NOBODY), 1, 0, 9, 2, 0, 4, 0, 2, 1);
            String before = answers(x);
            x.ask(1, 2);
            x.peck(0, 2, 8);
            same("not the same after two changes", answers(x).equals(before) ? "same" : "other", "other");
            x.undo();
            x.undo();
            same("answers", answers(x), before);
        });
    }

    private static String answers(PeckYard x) {
        return x.least() + " " + x.loose() + " " + groups(x) + " " + x.sure(0, 1) + " " + x.sure(1, 2) + " "
                + x.pack() + " " + x.count(5) + " " + bestOnes(x);
    }

    private static void takenBack(String what, Call change) {
        sentence("Promise 11", "The latest change is taken back (hens and pecks are as they were): " + what, () -> {
            PeckYard x = busyYard();
            String before = flock(x, 12);
            change.on(x);
            due("count(3)", x.count(3), 8);
            same("not the same after it", flock(x, 12).equals(before) ? "same" : "other", "other");
            due("undo()", x.undo(), 7);
            same("hens and pecks", flock(x, 12), before);
            due("count(0)", x.count(0), 3);
        });
    }

    public static void main(String[] args) {
        refusedCalls();
        refusedElsewhere();
        whichOfSeveral();
        whatIsAChange();
        howManyAreKept();
        takingBack();
        finish();
    }
}
