/** What the tests of single sentences share: each sentence is tried by itself, and a wrong answer is told with it. */
abstract class Edges {
    static final long BAD = -2000000001L, NO = -2000000002L, FULL = -2000000003L, NONE = -2000000005L;
    static final int NOBODY = -2000000005;
    static final int LEAST = Integer.MIN_VALUE, MOST = Integer.MAX_VALUE;
    static final int HEN = 0, PULLET = 1, OLD = 2, PAIR = 3, GUEST = 4;

    private static int wrong = 0;
    private static int tried = 0;
    private static String now = "";

    interface Trial {
        void run();
    }

    static void sentence(String where, String words, Trial trial) {
        now = where + ", '" + words + "'";
        tried++;
        try {
            trial.run();
        } catch (RuntimeException thrown) {
            wrong++;
            System.out.println(now + ": threw " + thrown);
        }
    }

    static void due(String call, long got, long want) {
        if (got != want) {
            wrong++;
            System.out.println(now + ": " + call + " answered " + got + ", due is " + want);
        }
    }

    static void same(String what, String got, String want) {
        if (!got.equals(want)) {
            wrong++;
            System.out.println(now + ": " + what + " is\n  " + got + "\ndue is\n  " + want);
        }
    }

    static void finish() {
        System.out.println(wrong == 0 ? "all " + tried + " sentences hold" : wrong + " answers are not as due");
        if (wrong != 0) System.exit(1);
    }

    /** Hens of these kinds, who ask for nobody. */
    static PeckYard yard(int... kinds) {
        PeckYard x = new PeckYard();
        for (int kind : kinds) {
            x.hen(kind, NOBODY);
        }
        return x;
    }

    /** So many plain hens. */
    static PeckYard hens(int many) {
        return yard(new int[many]);
    }

    /** Hens by kind and whom they ask for, in turns. */
    static PeckYard asked(int... kindsAndAsks) {
        PeckYard x = new PeckYard();
        for (int i = 0; i + 1 < kindsAndAsks.length; i += 2) {
            x.hen(kindsAndAsks[i], kindsAndAsks[i + 1]);
        }
        return x;
    }

    /** Pecks by hen, other and weight, in turns; who has no PEN gets one of longs. */
    static PeckYard pecking(PeckYard x, int... hensOthersWeights) {
        for (int i = 0; i + 2 < hensOthersWeights.length; i += 3) {
            int hen = hensOthersWeights[i];
            if (x.about(hen, 3) == NONE) {
                x.pen(hen, 3);
            }
            x.peck(hen, hensOthersWeights[i + 1], hensOthersWeights[i + 2]);
        }
        return x;
    }

    static PeckYard standing(PeckYard x, int... hens) {
        x.begin();
        for (int hen : hens) {
            x.stand(hen);
        }
        return x;
    }

    /** The ORDER IN HAND, by its hens. */
    static String hand(PeckYard x) {
        StringBuilder row = new StringBuilder();
        long size = x.count(2);
        for (int i = 0; i < size; i++) {
            row.append(i > 0 ? " " : "").append(x.order(i));
        }
        return row.toString();
    }

    /** All BEST ORDERS, by their numbers; at most 30 of them. */
    static String bestOnes(PeckYard x) {
        StringBuilder row = new StringBuilder();
        long many = x.many();
        for (int k = 0; k < many && k < 30; k++) {
            x.best(k);
            row.append(k > 0 ? " | " : "").append(hand(x));
        }
        return row.toString();
    }

    /** Ring i that is kept: its SHARE, a colon, its hens. */
    static String ring(PeckYard x, int i) {
        StringBuilder row = new StringBuilder().append(x.ring(i, 0)).append(":");
        long size = x.ring(i, 1);
        for (int k = 0; k < size; k++) {
            row.append(" ").append(x.ring(i, 2 + k));
        }
        return row.toString();
    }

    static String rings(PeckYard x) {
        StringBuilder row = new StringBuilder();
        long kept = x.count(4);
        for (int i = 0; i < kept; i++) {
            row.append(i > 0 ? " | " : "").append(ring(x, i));
        }
        return row.toString();
    }

    /** The GROUP of each hen. */
    static String groups(PeckYard x) {
        StringBuilder row = new StringBuilder();
        long size = x.count(0);
        for (int hen = 0; hen < size; hen++) {
            long group = x.groupOf(hen);
            row.append(hen > 0 ? " " : "").append(group == NONE ? "-" : group);
        }
        return row.toString();
    }

    /** What there is to be known of the hens, and of their pecks on the first so many. */
    static String flock(PeckYard x, int others) {
        StringBuilder row = new StringBuilder();
        long size = x.count(0);
        for (int hen = 0; hen < size; hen++) {
            row.append("[");
            for (int what = 0; what <= 3; what++) {
                long told = x.about(hen, what);
                row.append(told == NONE ? "-" : told).append(" ");
            }
            for (int other = 0; other < others; other++) {
                row.append(other == hen ? "." : x.pecks(hen, other)).append(" ");
            }
            row.append("]");
        }
        return row.toString();
    }
}
