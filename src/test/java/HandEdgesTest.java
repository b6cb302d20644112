/** The sentences of promises 18 to 25, on the order in hand, that name a boundary case, one by one. */
public final class HandEdgesTest extends Edges {
    private static void standings() {
        sentence("Promise 18", "The ORDER IN HAND is empty: how many it had", () -> {
            PeckYard x = hens(12);
            due("begin() of none", x.begin(), 0);
            for (int hen = 0; hen < 12; hen++) {
                x.stand(hen);
            }
            due("begin() of 12", x.begin(), 12);
            due("count(2)", x.count(2), 0);
            due("order(0)", x.order(0), BAD);
            due("begin() again", x.begin(), 0);
            due("stand(5), who stood there", x.stand(5), 1);
            due("begin() of one", x.begin(), 1);
        });
        sentence("Promise 19", "A hen comes below all: how many it has", () -> {
            PeckYard x = hens(12);
            for (int n = 0; n < 12; n++) {
                due("stand", x.stand(n * 5 % 12), n + 1);
                due("order", x.order(n), n * 5 % 12);
            }
            same("hand", hand(x), "0 5 10 3 8 1 6 11 4 9 2 7");
        });
        sentence("Promise 19", "BAD: there is no such hen", () -> {
            PeckYard x = hens(2);
            for (int hen : new int[] {-1, 2, 11, 12, LEAST, MOST, NOBODY}) {
                due("stand(" + hen + ")", x.stand(hen), BAD);
            }
            due("count(2)", x.count(2), 0);
        });
        sentence("Promise 19", "BAD: or it stands there", () -> {
            PeckYard x = standing(hens(3), 2, 0);
            due("stand(2), the highest", x.stand(2), BAD);
            due("stand(0), the lowest", x.stand(0), BAD);
            due("stand(1)", x.stand(1), 3);
            due("stand(1)", x.stand(1), BAD);
        });
        sentence("Promise 19", "FULL: it has 12 (who then could come stands there, so it is BAD)", () -> {
            PeckYard x = standing(hens(12), 0, 1, 2, 3, 4, 5, 6, 7, 8, 9, 10, 11);
            for (int hen = 0; hen < 13; hen++) {
                due("stand(" + hen + ")", x.stand(hen), BAD);
            }
            x.undo();
            due("stand(11), who is no more", x.stand(11), BAD);
            due("count(2)", x.count(2), 12);
            x.hen(HEN, NOBODY);
            due("stand(11), who is again", x.stand(11), BAD);
        });
        sentence("Promise 19", "one that does not COUNT may stand there", () -> {
            PeckYard x = yard(GUEST, HEN);
            due("stand(0)", x.stand(0), 1);
            due("stand(1)", x.stand(1), 2);
            due("weight()", x.weight(), NO);
        });
        sentence("Promise 20", "Place i, the highest being 0: the hen. BAD", () -> {
            PeckYard x = standing(hens(3), 2, 0, 1);
            due("order(0)", x.order(0), 2);
            due("order(2)", x.order(2), 1);
            for (int i : new int[] {-1, 3, 4, 11, 12, LEAST, MOST, NOBODY}) {
                due("order(" + i + ")", x.order(i), BAD);
            }
            x.begin();
            due("order(0) of none", x.order(0), BAD);
        });
        sentence("Promise 20", "a place that was there before is none", () -> {
            PeckYard x = standing(yard(HEN, HEN, GUEST), 2, 1, 0);
            x.best(0);
            due("order(1)", x.order(1), 1);
            due("order(2)", x.order(2), BAD);
        });
    }

    private static void moves() {
        sentence("Promise 21", "The hen of place i goes to place k (those between move one place): 0", () -> {
            due("move(0, 3)", moved(0, 3, "1 2 3 0 4"), 0);
            due("move(3, 0)", moved(3, 0, "3 0 1 2 4"), 0);
            due("move(0, 4)", moved(0, 4, "1 2 3 4 0"), 0);
            due("move(4, 0)", moved(4, 0, "4 0 1 2 3"), 0);
            due("move(1, 2)", moved(1, 2, "0 2 1 3 4"), 0);
            due("move(2, 1)", moved(2, 1, "0 2 1 3 4"), 0);
            due("move(4, 4)", moved(4, 4, "0 1 2 3 4"), 0);
            due("move(0, 0)", moved(0, 0, "0 1 2 3 4"), 0);
        });
        sentence("Promise 21", "of all 12, from the last place to the first and back", () -> {
            PeckYard x = standing(hens(12), 0, 1, 2, 3, 4, 5, 6, 7, 8, 9, 10, 11);
            due("move(11, 0)", x.move(11, 0), 0);
            same("hand", hand(x), "11 0 1 2 3 4 5 6 7 8 9 10");
            due("move(0, 11)", x.move(0, 11), 0);
            same("hand", hand(x), "0 1 2 3 4 5 6 7 8 9 10 11");
            due("move(11, 12)", x.move(11, 12), BAD);
            due("move(12, 11)", x.move(12, 11), BAD);
        });
        sentence("Promise 21", "BAD", () -> {
            PeckYard x = standing(hens(3), 0, 1, 2);
            for (int i : new int[] {-1, 3, 12, LEAST, MOST, NOBODY}) {
                due("move(" + i + ", 0)", x.move(i, 0), BAD);
                due("move(0, " + i + ")", x.move(0, i), BAD);
                due("move(" + i + ", " + i + ")", x.move(i, i), BAD);
            }
            same("hand", hand(x), "0 1 2");
            x.begin();
            due("move(0, 0) of none", x.move(0, 0), BAD);
        });
        sentence("Promise 21", "an order that is not WHOLE is moved, too", () -> {
            PeckYard x = standing(yard(GUEST, HEN, HEN), 0, 1);
            due("move(0, 1)", x.move(0, 1), 0);
            same("hand", hand(x), "1 0");
        });
        sentence("Promise 25", "turned about (the lowest first): 0", () -> {
            PeckYard x = hens(4);
            due("turn() of none", x.turn(), 0);
            same("hand", hand(x), "");
            due("turn() of one", standing(x, 3).turn(), 0);
            same("hand", hand(x), "3");
            due("turn() of two", standing(x, 3, 1).turn(), 0);
            same("hand", hand(x), "1 3");
            due("turn() of three", standing(x, 3, 1, 0).turn(), 0);
            same("hand", hand(x), "0 1 3");
            due("turn() again", x.turn(), 0);
            same("hand", hand(x), "3 1 0");
        });
        sentence("Promise 25", "of all 12", () -> {
            PeckYard x = standing(hens(12), 0, 1, 2, 3, 4, 5, 6, 7, 8, 9, 10, 11);
            due("turn()", x.turn(), 0);
            same("hand", hand(x), "11 10 9 8 7 6 5 4 3 2 1 0");
        });
    }

    private static long moved(int i, int k, String want) {
        PeckYard x = standing(hens(5), 0, 1, 2, 3, 4);
        long answer = x.move(i, k);
        same("hand", hand(x), want);
        return answer;
    }

    private static void weights() {
        sentence("Promise 22", "NO: it is not WHOLE", () -> {
            PeckYard x = pecking(hens(2), 0, 1, 5);
            due("weight() of none", x.weight(), NO);
            due("weight() of one", standing(x, 1).weight(), NO);
            due("weight() of both", standing(x, 1, 0).weight(), 5);
            x.undo();
            due("weight(), when the peck is taken back", x.weight(), 0);
        });
        sentence("Promise 22", "of an order that is not LAWFUL, too", () ->
                due("weight()", standing(pecking(asked(PULLET, 1, HEN, NOBODY), 1, 0, 7), 0, 1).weight(), 7));
        sentence("Promise 22", "the most that there can be", () -> {
            PeckYard x = new PeckYard();
            for (int hen = 0; hen < 12; hen++) {
                x.hen(HEN, NOBODY);
                x.pen(hen, 2);
                for (int other = 0; other < hen; other++) {
                    x.peck(hen, other, 1000000);
                }
                x.stand(hen);
            }
            due("weight()", x.weight(), 66000000L);
            x.turn();
            due("weight(), turned", x.weight(), 0);
        });
        sentence("Promise 23", "the least hen whose asking is not", () -> {
            PeckYard x = asked(HEN, 1, PULLET, 0, OLD, 0, PAIR, 1);
            due("fault() of PULLET, OLD and PAIR", standing(x, 3, 1, 0, 2).fault(), 1);
            due("fault() of OLD and PAIR", standing(x, 0, 1, 2, 3).fault(), 2);
            due("fault() of PAIR", standing(x, 2, 0, 3, 1).fault(), 3);
            due("fault() of PAIR, one between", standing(x, 0, 1, 2, 3).fault(), 2);
        });
        sentence("Promise 23", "NONE: it is LAWFUL", () -> {
            PeckYard x = asked(HEN, 1, PULLET, 0, OLD, 0, PAIR, 1);
            due("fault()", standing(x, 2, 0, 1, 3).fault(), NONE);
            due("fault() of none", new PeckYard().fault(), NONE);
            due("fault() of one", standing(asked(PAIR, 5), 0).fault(), NONE);
        });
        sentence("Promise 23", "stands right below that one, none between, and not above", () -> {
            PeckYard x = asked(PAIR, 1, HEN, NOBODY, HEN, NOBODY);
            due("fault(), right below", standing(x, 2, 1, 0).fault(), NONE);
            due("fault(), one between", standing(x, 1, 2, 0).fault(), 0);
            due("fault(), right above", standing(x, 2, 0, 1).fault(), 0);
        });
        sentence("Promise 23", "NO: it is not WHOLE, and whether it is LAWFUL is not asked", () -> {
            PeckYard x = standing(asked(PULLET, 1, HEN, NOBODY, HEN, NOBODY), 0, 1);
            due("fault()", x.fault(), NO);
            x.stand(2);
            due("fault()", x.fault(), 0);
        });
        sentence("Promise 23", "what is not looked at is kept", () -> {
            PeckYard x = standing(asked(PAIR, 2, OLD, 7, GUEST, NOBODY), 0, 1);
            due("fault()", x.fault(), NONE);
            x.take(2, 1);
            x.stand(2);
            due("fault(), when it is looked at", x.fault(), 0);
        });
    }

    private static void bettering() {
        sentence("Promise 24", "n times (1 .. 40). BAD", () -> {
            PeckYard x = standing(hens(2), 0, 1);
            for (int n : new int[] {0, -1, 41, 42, 256 + 1, LEAST, MOST, NOBODY}) {
                due("better(" + n + ")", x.better(n), BAD);
            }
            due("better(1)", x.better(1), 0);
            due("better(40)", x.better(40), 0);
        });
        sentence("Promise 24", "n times at most", () -> {
            PeckYard x = pecking(hens(4), 1, 0, 1, 2, 1, 2, 3, 2, 4);
            due("better(1)", standing(x, 0, 1, 2, 3).better(1), 1);
            due("weight(), 4 less", x.weight(), 3);
            due("better(2)", standing(x, 0, 1, 2, 3).better(2), 2);
            due("weight(), 6 less", x.weight(), 1);
            due("better(3)", standing(x, 0, 1, 2, 3).better(3), 3);
            due("weight(), 7 less", x.weight(), 0);
        });
        sentence("Promise 24", "as long as there is one: how many were done", () -> {
            PeckYard x = pecking(hens(4), 1, 0, 1, 2, 1, 2, 3, 2, 4);
            due("better(40)", standing(x, 0, 1, 2, 3).better(40), 3);
            same("hand", hand(x), "3 2 1 0");
            due("better(40), again", x.better(40), 0);
            same("hand", hand(x), "3 2 1 0");
        });
        sentence("Promise 24", "becomes lighter: not one that leaves it as heavy", () -> {
            PeckYard x = pecking(hens(2), 0, 1, 3, 1, 0, 3);
            due("better(1)", standing(x, 1, 0).better(1), 0);
            same("hand", hand(x), "1 0");
            pecking(x, 0, 1, 4);
            due("better(1), by 1", x.better(1), 1);
            same("hand", hand(x), "0 1");
        });
        sentence("Promise 24", "that which makes it lightest is done", () -> {
            PeckYard x = pecking(hens(4), 1, 0, 1, 3, 2, 5);
            due("better(1)", standing(x, 0, 1, 2, 3).better(1), 1);
            same("hand", hand(x), "0 1 3 2");
        });
        sentence("Promise 24", "of several that of the least hen", () -> {
            PeckYard x = pecking(hens(3), 2, 1, 5);
            due("better(1), 1 down or 2 up", standing(x, 0, 1, 2).better(1), 1);
            same("hand", hand(x), "0 2 1");
            due("better(1), 1 down one or two, or 2 up", standing(x, 1, 0, 2).better(1), 1);
            same("hand, 1 is moved, not 2", hand(x), "0 2 1");
        });
        sentence("Promise 24", "of these that to the least place", () -> {
            PeckYard x = pecking(hens(3), 2, 0, 5);
            due("better(1), 0 to place 1 or 2", standing(x, 0, 2, 1).better(1), 1);
            same("hand", hand(x), "2 0 1");
            PeckYard y = pecking(hens(3), 0, 2, 5);
            due("better(1), 0 to place 0 or 1", standing(y, 1, 2, 0).better(1), 1);
            same("hand", hand(y), "0 1 2");
        });
        sentence("Promise 24", "and is LAWFUL: a lighter one that is not is passed over", () -> {
            PeckYard x = pecking(asked(PULLET, 1, HEN, NOBODY, HEN, NOBODY), 0, 1, 9, 2, 0, 1);
            due("better(1)", standing(x, 1, 0, 2).better(1), 1);
            same("hand", hand(x), "1 2 0");
            due("better(1)", x.better(1), 0);
        });
        sentence("Promise 24", "and is LAWFUL: single hens of a BLOCK cannot be moved away", () -> {
            PeckYard x = pecking(asked(PAIR, 1, HEN, NOBODY, HEN, NOBODY), 2, 0, 5, 2, 1, 5);
            due("better(40)", standing(x, 1, 0, 2).better(40), 1);
            same("hand, hen 2 is moved", hand(x), "2 1 0");
            PeckYard y = pecking(asked(PAIR, 1, HEN, NOBODY, PAIR, 3, HEN, NOBODY), 3, 0, 5);
            due("better(40)", standing(y, 1, 0, 3, 2).better(40), 0);
            due("least()", y.least(), 0);
        });
        sentence("Promise 24", "NO: it is not WHOLE", () -> {
            PeckYard x = pecking(yard(HEN, HEN, GUEST), 1, 0, 5);
            due("better(1) of none", x.better(1), NO);
            due("better(1) of one", standing(x, 0).better(1), NO);
            due("better(1) with a GUEST", standing(x, 0, 1, 2).better(1), NO);
            same("hand", hand(x), "0 1 2");
        });
        sentence("Promise 24", "(It need not be LAWFUL at first.) a move that makes it so", () -> {
            PeckYard x = pecking(asked(PULLET, 1, HEN, NOBODY), 1, 0, 1);
            due("better(1)", standing(x, 0, 1).better(1), 1);
            same("hand", hand(x), "1 0");
        });
        sentence("Promise 24", "(It need not be LAWFUL at first.) but what is LAWFUL and no lighter is not done", () -> {
            PeckYard x = pecking(asked(PULLET, 1, HEN, NOBODY), 0, 1, 1);
            due("better(40), heavier", standing(x, 0, 1).better(40), 0);
            same("hand", hand(x), "0 1");
            pecking(x, 1, 0, 1);
            due("better(40), as heavy", x.better(40), 0);
            pecking(x, 1, 0, 2);
            due("better(40), lighter", x.better(40), 1);
        });
        sentence("Promise 24", "the empty one, and one of a single hen", () -> {
            due("better(1) of none", new PeckYard().better(1), 0);
            due("better(40) of one", standing(pecking(hens(1), 0, 1, 5), 0).better(40), 0);
        });
        sentence("Promise 24", "of all 12, from the first place to the last", () -> {
            PeckYard x = hens(12);
            for (int hen = 1; hen < 12; hen++) {
                pecking(x, hen, 0, 1000000);
            }
            due("better(40)", standing(x, 0, 1, 2, 3, 4, 5, 6, 7, 8, 9, 10, 11).better(40), 1);
            same("hand", hand(x), "1 2 3 4 5 6 7 8 9 10 11 0");
        });
    }

    public static void main(String[] args) {
        standings();
        moves();
        weights();
        bettering();
        finish();
    }
}
