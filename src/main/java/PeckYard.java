import java.util.Arrays;

/** A yard where hens peck each other, and an order is sought that upsets as few pecks as can be. */
public final class PeckYard {
    public static final long BAD = -2000000001L, NO = -2000000002L, FULL = -2000000003L, NONE = -2000000005L;

    private static final int HENS = 12;
    private static final int NOBODY = -2000000005;
    private static final int HEN = 0;
    private static final int PULLET = 1;
    private static final int OLD = 2;
    private static final int PAIR = 3;
    private static final int GUEST = 4;
    private static final int MISSING = -1;
    private static final int NOT_THERE = -1;
    private static final int MOST_WEIGHT = 1000000;
    private static final int[] MOST_OF_WIDTH = {127, 32767, 1000000, 1000000};
    private static final int CHANGES_KEPT = 8;
    private static final int MOST_MOVES = 40;
    private static final int TWO_ASK = 100;

    private final Flock flock;
    private final Changes changes;
    private final Muster muster;
    private final Orders orders;
    private final Hand hand;
    private final Line line;
    private final Groups groupings;
    private final Rings rings;
    private final Leads leads;

    public PeckYard() {
        flock = new Flock();
        changes = new Changes();
        muster = new Muster(flock);
        orders = new Orders(muster);
        hand = new Hand();
        line = new Line(muster);
        groupings = new Groups(muster);
        rings = new Rings(muster);
        leads = new Leads(muster);
    }

    // ---- hens and pecks

    public long hen(int kind, int asks) {
        if (!isKind(kind) || !mayAskFor(flock.size, asks)) {
            return BAD;
        }
        if (flock.size >= HENS) {
            return FULL;
        }
        changes.keepNewHen(flock);
        flock.addHen(kind, asks);
        return flock.size - 1;
    }

    public long ask(int hen, int asks) {
        if (!flock.has(hen) || !mayAskFor(hen, asks)) {
            return BAD;
        }
        changes.keepHen(flock, hen);
        long was = flock.asks[hen];
        flock.asks[hen] = asks;
        return was;
    }

    public long take(int hen, int in) {
        if (!flock.has(hen) || in < 0 || in > 1) {
            return BAD;
        }
        if (flock.kind[hen] != GUEST) {
            return NO;
        }
        changes.keepHen(flock, hen);
        long was = flock.takenIn[hen];
        flock.takenIn[hen] = in;
        return was;
    }

    public long pen(int hen, int width) {
        if (!flock.has(hen) || width < 0 || width >= MOST_OF_WIDTH.length) {
            return BAD;
        }
        changes.keepHen(flock, hen);
        flock.renewPen(hen, width);
        return 0;
    }

    public long peck(int hen, int other, long weight) {
        if (!flock.has(hen) || !isOther(hen, other) || weight < 0 || weight > flock.mostWeight(hen)) {
            return BAD;
        }
        if (flock.width[hen] == MISSING) {
            return NO;
        }
        changes.keepHen(flock, hen);
        long was = flock.weights[hen * HENS + other];
        flock.weights[hen * HENS + other] = (int) weight;
        return was;
    }

    public long leave(int hen) {
        if (!flock.has(hen)) {
            return BAD;
        }
        if (flock.width[hen] == MISSING) {
            return NO;
        }
        changes.keepHen(flock, hen);
        flock.renewPen(hen, MISSING);
        return 0;
    }

    public long about(int hen, int what) {
        if (!flock.has(hen)) {
            return BAD;
        }
        switch (what) {
            case 0:
                return flock.kind[hen];
            case 1:
                return flock.asks[hen];
            case 2:
                return flock.isCounted(hen) ? 1 : 0;
            case 3:
                return flock.width[hen] == MISSING ? NONE : flock.width[hen];
            default:
                return BAD;
        }
    }

    public long isOf(int hen, int kind) {
        if (!flock.has(hen) || !isKind(kind)) {
            return BAD;
        }
        int own = flock.kind[hen];
        return kind == HEN || kind == own || (kind == PULLET && own == PAIR) ? 1 : 0;
    }

    public long pecks(int hen, int other) {
        if (!flock.has(hen) || !isOther(hen, other)) {
            return BAD;
        }
        return flock.weights[hen * HENS + other];
    }

    public long undo() {
        if (changes.kept == 0) {
            return NO;
        }
        changes.takeBack(flock);
        return changes.kept;
    }

    // ---- best orders

    public long least() {
        orders.solve();
        return orders.hasLawful() ? orders.leastWeight() : NONE;
    }

    public long many() {
        orders.solve();
        return orders.howMany();
    }

    public long best(long k) {
        if (k < 0) {
            return BAD;
        }
        orders.solve();
        if (k >= orders.howMany()) {
            return NONE;
        }
        orders.bringInHand(k, hand);
        return hand.size;
    }

    public long number() {
        if (!line.readFrom(hand)) {
            return NO;
        }
        orders.solve();
        return orders.numberOf(line.row);
    }

    public long sure(int hen, int other) {
        if (hen == other || !flock.isCounted(hen) || !flock.isCounted(other)) {
            return BAD;
        }
        orders.solve();
        if (!orders.hasLawful()) {
            return NONE;
        }
        orders.agree();
        int first = muster.slotOf[hen];
        int second = muster.slotOf[other];
        if (!orders.mayStandAbove(second, first)) {
            return 1;
        }
        return orders.mayStandAbove(first, second) ? 0 : 2;
    }

    public long why() {
        return leads.reason();
    }

    // ---- the order in hand

    public long begin() {
        int had = hand.size;
        hand.size = 0;
        return had;
    }

    public long stand(int hen) {
        if (!flock.has(hen) || hand.holds(hen)) {
            return BAD;
        }
        if (hand.size >= HENS) {
            return FULL;
        }
        hand.append(hen);
        return hand.size;
    }

    public long order(int i) {
        return hand.isPlace(i) ? hand.hens[i] : BAD;
    }

    public long move(int i, int k) {
        if (!hand.isPlace(i) || !hand.isPlace(k)) {
            return BAD;
        }
        shift(hand.hens, i, k);
        return 0;
    }

    public long weight() {
        return line.readFrom(hand) ? line.upsetWeight() : NO;
    }

    public long fault() {
        return line.readFrom(hand) ? line.leastFault() : NO;
    }

    public long better(int n) {
        if (n < 1 || n > MOST_MOVES) {
            return BAD;
        }
        if (!line.readFrom(hand)) {
            return NO;
        }
        int done = 0;
        while (done < n && line.improve()) {
            done++;
        }
        line.writeTo(hand);
        return done;
    }

    public long turn() {
        hand.reverse();
        return 0;
    }

    // ---- groups and rings

    public long groups() {
        groupings.settle();
        return groupings.size;
    }

    public long groupOf(int hen) {
        if (!flock.has(hen)) {
            return BAD;
        }
        if (!flock.isCounted(hen)) {
            return NONE;
        }
        groupings.settle();
        return groupings.groupAt[muster.slotOf[hen]];
    }

    public long loose() {
        return orders.looseWeight();
    }

    public long pack() {
        return rings.packAll();
    }

    public long ring(int i, int what) {
        if (i < 0 || what < 0) {
            return BAD;
        }
        return i < rings.size ? rings.tell(i, what) : NONE;
    }

    public long count(int what) {
        switch (what) {
            case 0:
                return flock.size;
            case 1:
                muster.gather();
                return muster.size;
            case 2:
                return hand.size;
            case 3:
                return changes.kept;
            case 4:
                return rings.size;
            case 5:
                muster.gather();
                return muster.allPecks();
            case 6:
                return flock.penCount();
            default:
                return BAD;
        }
    }

    // ---- what several parts use

    private static boolean isKind(int kind) {
        return kind >= 0 && kind <= GUEST;
    }

    private static boolean isOther(int hen, int other) {
        return other >= 0 && other < HENS && other != hen;
    }

    private static boolean mayAskFor(int hen, int asks) {
        return asks == NOBODY || isOther(hen, asks);
    }

    private static boolean isIn(int set, int slot) {
        return (set >> slot & 1) == 1;
    }

    private static void shift(int[] row, int from, int to) {
        int moved = row[from];
        for (int i = from; i < to; i++) {
            row[i] = row[i + 1];
        }
        for (int i = from; i > to; i--) {
            row[i] = row[i - 1];
        }
        row[to] = moved;
    }

    /** All hens, with what they ask for and their PENS. */
    private static final class Flock {
        int size;
        /** Goes up with each change, so that others know when what they have worked out is out of date. */
        int stamp;
        final int[] kind = new int[HENS];
        final int[] asks = new int[HENS];
        final int[] takenIn = new int[HENS];
        final int[] width = new int[HENS];
        /** A MISSING PEN has zeros here, so that no reader has to ask whether there is one. */
        final int[] weights = new int[HENS * HENS];

        boolean has(int hen) {
            return hen >= 0 && hen < size;
        }

        boolean isCounted(int hen) {
            return has(hen) && (kind[hen] != GUEST || takenIn[hen] == 1);
        }

        void addHen(int itsKind, int itsAsks) {
            kind[size] = itsKind;
            asks[size] = itsAsks;
            takenIn[size] = 0;
            renewPen(size, MISSING);
            size++;
        }

        void renewPen(int hen, int itsWidth) {
            width[hen] = itsWidth;
            for (int other = 0; other < HENS; other++) {
                weights[hen * HENS + other] = 0;
            }
        }

        int mostWeight(int hen) {
            return width[hen] == MISSING ? MOST_WEIGHT : MOST_OF_WIDTH[width[hen]];
        }

        boolean asksForSomebody(int hen) {
            return kind[hen] != HEN && kind[hen] != GUEST && asks[hen] != NOBODY;
        }

        int penCount() {
            int found = 0;
            for (int hen = 0; hen < size; hen++) {
                if (width[hen] != MISSING) {
                    found++;
                }
            }
            return found;
        }
    }

    /** One hen as it was ahead of a change. */
    private static final class Change {
        boolean isNewHen;
        int hen;
        int asks;
        int takenIn;
        int width;
        final int[] row = new int[HENS];

        void save(Flock flock, int which) {
            hen = which;
            asks = flock.asks[which];
            takenIn = flock.takenIn[which];
            width = flock.width[which];
            System.arraycopy(flock.weights, which * HENS, row, 0, HENS);
        }

        void restore(Flock flock) {
            flock.asks[hen] = asks;
            flock.takenIn[hen] = takenIn;
            flock.width[hen] = width;
            System.arraycopy(row, 0, flock.weights, hen * HENS, HENS);
        }
    }

    /** The latest changes, in a row that is used round and round. */
    private static final class Changes {
        int kept;
        private int next;
        private final Change[] row = new Change[CHANGES_KEPT];

        Changes() {
            for (int i = 0; i < CHANGES_KEPT; i++) {
                row[i] = new Change();
            }
        }

        void keepNewHen(Flock flock) {
            row[next].isNewHen = true;
            step(flock);
        }

        void keepHen(Flock flock, int hen) {
            row[next].isNewHen = false;
            row[next].save(flock, hen);
            step(flock);
        }

        private void step(Flock flock) {
            flock.stamp++;
            next = (next + 1) % CHANGES_KEPT;
            kept = Math.min(kept + 1, CHANGES_KEPT);
        }

        void takeBack(Flock flock) {
            flock.stamp++;
            next = (next + CHANGES_KEPT - 1) % CHANGES_KEPT;
            kept--;
            if (row[next].isNewHen) {
                flock.size--;
            } else {
                row[next].restore(flock);
            }
        }
    }

    /**
     * Those that COUNT, in slots from 0 on by their numbers: sets of them are then small masks, and
     * orders of slots stand in the same order as those of hens.
     */
    private static final class Muster {
        private final Flock flock;
        int stamp = -1;
        int size;
        final int[] hens = new int[HENS];
        final int[] slotOf = new int[HENS];
        final int[] kind = new int[HENS];
        /** The slot that a slot asks for, or NOT_THERE. */
        final int[] wants = new int[HENS];
        /** The slots that a slot's or their own asking puts below it. */
        final int[] below = new int[HENS];
        /** The PAIRS that ask for a slot. */
        final int[] pairs = new int[HENS];
        final int[] pecks = new int[HENS * HENS];

        Muster(Flock flock) {
            this.flock = flock;
        }

        void gather() {
            if (stamp == flock.stamp) {
                return;
            }
            stamp = flock.stamp;
            size = 0;
            for (int hen = 0; hen < HENS; hen++) {
                slotOf[hen] = NOT_THERE;
                if (flock.isCounted(hen)) {
                    slotOf[hen] = size;
                    hens[size] = hen;
                    kind[size] = flock.kind[hen];
                    below[size] = 0;
                    pairs[size] = 0;
                    size++;
                }
            }
            for (int slot = 0; slot < size; slot++) {
                gatherPecks(slot);
                gatherAsking(slot);
            }
        }

        private void gatherPecks(int slot) {
            for (int other = 0; other < size; other++) {
                pecks[slot * HENS + other] = flock.weights[hens[slot] * HENS + hens[other]];
            }
        }

        private void gatherAsking(int slot) {
            int hen = hens[slot];
            wants[slot] = flock.asksForSomebody(hen) ? slotOf[flock.asks[hen]] : NOT_THERE;
            if (wants[slot] == NOT_THERE) {
                return;
            }
            if (kind[slot] == OLD) {
                below[slot] |= 1 << wants[slot];
            } else {
                below[wants[slot]] |= 1 << slot;
            }
            if (kind[slot] == PAIR) {
                pairs[wants[slot]] |= 1 << slot;
            }
        }

        int all() {
            return (1 << size) - 1;
        }

        int peckOf(int slot, int other) {
            return pecks[slot * HENS + other];
        }

        long allPecks() {
            long sum = 0;
            for (int slot = 0; slot < size; slot++) {
                for (int other = 0; other < size; other++) {
                    sum += peckOf(slot, other);
                }
            }
            return sum;
        }
    }

    /**
     * What a set of slots brings together, for its lower and its upper six slots apart: two looks
     * tell it for any of the 4096 sets, and the rows stay short.
     */
    private static final class Halves {
        private static final int BITS = 6;
        private static final int SETS = 64;
        private static final int MASK = 63;

        private final Muster muster;
        private int stamp = -1;
        private final int[] lowCost = new int[HENS * SETS];
        private final int[] highCost = new int[HENS * SETS];
        private final int[] lowBelow = new int[SETS];
        private final int[] highBelow = new int[SETS];
        private final int[] lowPairs = new int[SETS];
        private final int[] highPairs = new int[SETS];

        Halves(Muster muster) {
            this.muster = muster;
        }

        void prepare() {
            muster.gather();
            if (stamp == muster.stamp) {
                return;
            }
            stamp = muster.stamp;
            for (int slot = 0; slot < muster.size; slot++) {
                boolean isLow = slot < BITS;
                int bit = isLow ? slot : slot - BITS;
                spreadUnion(isLow ? lowBelow : highBelow, bit, muster.below[slot]);
                spreadUnion(isLow ? lowPairs : highPairs, bit, muster.pairs[slot]);
                for (int other = 0; other < muster.size; other++) {
                    spreadSum(isLow ? lowCost : highCost, other * SETS, bit, muster.peckOf(other, slot));
                }
            }
        }

        private static void spreadUnion(int[] row, int bit, int value) {
            int end = 1 << bit;
            for (int set = 0; set < end; set++) {
                row[end + set] = row[set] | value;
            }
        }

        private static void spreadSum(int[] row, int at, int bit, int value) {
            int end = 1 << bit;
            for (int set = 0; set < end; set++) {
                row[at + end + set] = row[at + set] + value;
            }
        }

        /** The pecks that are upset by a slot's standing below all of a set. */
        int costBelow(int set, int slot) {
            return lowCost[slot * SETS + (set & MASK)] + highCost[slot * SETS + (set >> BITS & MASK)];
        }

        int mustBeBelow(int set) {
            return lowBelow[set & MASK] | highBelow[set >> BITS & MASK];
        }

        int pairsOf(int set) {
            return lowPairs[set & MASK] | highPairs[set >> BITS & MASK];
        }
    }

    /** The BEST ORDERS, by what is best for those that are left when a set of slots stands above. */
    private static final class Orders {
        /** Above each WEIGHT that there can be, and by so much below the greatest int that one may be added. */
        private static final int NO_WAY = 1000000000;

        private final Muster muster;
        private final Halves halves;
        private int solvedAt = -1;
        private int agreedAt = -1;
        private int loosenedAt = -1;
        private int looseLeast;
        private int[] rest = new int[1];
        private int[] ways = new int[1];
        private int[] looseRest = new int[1];
        private byte[] isOnWay = new byte[1];
        private final int[] mayBeBelow = new int[HENS];

        Orders(Muster muster) {
            this.muster = muster;
            halves = new Halves(muster);
        }

        void solve() {
            halves.prepare();
            if (solvedAt == muster.stamp) {
                return;
            }
            solvedAt = muster.stamp;
            int all = muster.all();
            if (rest.length <= all) {
                rest = new int[all + 1];
                ways = new int[all + 1];
            }
            rest[all] = 0;
            ways[all] = 1;
            for (int above = all - 1; above >= 0; above--) {
                weighRest(above, choices(above));
            }
        }

        /** The dearest loop of all: so the choices are shifted along, and no method asks for each of them. */
        private void weighRest(int above, int open) {
            int lightest = NO_WAY;
            int found = 0;
            for (int slot = 0, left = open; slot < HENS && left != 0; slot++, left >>= 1) {
                if ((left & 1) == 1) {
                    int after = above | 1 << slot;
                    int sum = rest[after] + halves.costBelow(above, slot);
                    if (sum < lightest) {
                        lightest = sum;
                        found = ways[after];
                    } else if (sum == lightest) {
                        found += ways[after];
                    }
                }
            }
            rest[above] = lightest;
            ways[above] = found;
        }

        /**
         * Those that may stand right below a set. A PAIR whose asked one is in the set must be next:
         * so it is always the latest of the set that it asks for, and two such can't both be kept.
         */
        private int choices(int above) {
            int left = muster.all() & ~above;
            int due = halves.pairsOf(above) & left;
            if ((due & due - 1) != 0) {
                return 0;
            }
            return (due == 0 ? left : due) & ~halves.mustBeBelow(left);
        }

        boolean hasLawful() {
            return rest[0] < NO_WAY;
        }

        long leastWeight() {
            return rest[0];
        }

        long howMany() {
            return ways[0];
        }

        /** Those that are next in some BEST ORDER which has a set above, if there is one that has. */
        private int bestChoices(int above) {
            int open = choices(above);
            int found = 0;
            for (int slot = 0; slot < muster.size && open >> slot != 0; slot++) {
                if (isIn(open, slot) && rest[above] == rest[above | 1 << slot] + halves.costBelow(above, slot)) {
                    found |= 1 << slot;
                }
            }
            return found;
        }

        void bringInHand(long k, Hand hand) {
            long skip = k;
            int above = 0;
            hand.size = 0;
            for (int place = 0; place < muster.size; place++) {
                int open = bestChoices(above);
                int chosen = NOT_THERE;
                for (int slot = 0; slot < muster.size && chosen == NOT_THERE; slot++) {
                    if (isIn(open, slot)) {
                        int after = ways[above | 1 << slot];
                        if (skip < after) {
                            chosen = slot;
                        } else {
                            skip -= after;
                        }
                    }
                }
                if (chosen == NOT_THERE) {
                    return;
                }
                hand.append(muster.hens[chosen]);
                above |= 1 << chosen;
            }
        }

        long numberOf(int[] row) {
            if (!hasLawful()) {
                return NONE;
            }
            long ahead = 0;
            int above = 0;
            for (int place = 0; place < muster.size; place++) {
                int slot = row[place];
                int open = bestChoices(above);
                if (!isIn(open, slot)) {
                    return NONE;
                }
                for (int lesser = 0; lesser < slot; lesser++) {
                    if (isIn(open, lesser)) {
                        ahead += ways[above | 1 << lesser];
                    }
                }
                above |= 1 << slot;
            }
            return ahead;
        }

        /** Goes along all BEST ORDERS at once: who is next is above all that are left. */
        void agree() {
            if (agreedAt == muster.stamp) {
                return;
            }
            agreedAt = muster.stamp;
            int all = muster.all();
            if (isOnWay.length <= all) {
                isOnWay = new byte[all + 1];
            }
            Arrays.fill(isOnWay, (byte) 0);
            Arrays.fill(mayBeBelow, 0);
            isOnWay[0] = 1;
            for (int above = 0; above < all; above++) {
                int open = isOnWay[above] == 1 ? bestChoices(above) : 0;
                for (int slot = 0; slot < muster.size && open >> slot != 0; slot++) {
                    if (isIn(open, slot)) {
                        int after = above | 1 << slot;
                        isOnWay[after] = 1;
                        mayBeBelow[slot] |= all & ~after;
                    }
                }
            }
        }

        boolean mayStandAbove(int slot, int other) {
            return isIn(mayBeBelow[slot], other);
        }

        long looseWeight() {
            halves.prepare();
            if (loosenedAt != muster.stamp) {
                loosenedAt = muster.stamp;
                loosen();
            }
            return looseLeast;
        }

        private void loosen() {
            int all = muster.all();
            if (looseRest.length <= all) {
                looseRest = new int[all + 1];
            }
            looseRest[all] = 0;
            for (int above = all - 1; above >= 0; above--) {
                int lightest = NO_WAY;
                for (int slot = 0, left = all & ~above; slot < HENS && left != 0; slot++, left >>= 1) {
                    if ((left & 1) == 1) {
                        int sum = looseRest[above | 1 << slot] + halves.costBelow(above, slot);
                        lightest = sum < lightest ? sum : lightest;
                    }
                }
                looseRest[above] = lightest;
            }
            looseLeast = looseRest[0];
        }
    }

    /** THE ORDER IN HAND: hens, no one twice; an undo may leave some in it that there are no more. */
    private static final class Hand {
        int size;
        final int[] hens = new int[HENS];

        boolean isPlace(int i) {
            return i >= 0 && i < size;
        }

        boolean holds(int hen) {
            for (int i = 0; i < size; i++) {
                if (hens[i] == hen) {
                    return true;
                }
            }
            return false;
        }

        void append(int hen) {
            if (size < HENS) {
                hens[size] = hen;
                size++;
            }
        }

        void reverse() {
            for (int i = 0; i < size / 2; i++) {
                int other = size - 1 - i;
                int hen = hens[i];
                hens[i] = hens[other];
                hens[other] = hen;
            }
        }
    }

    /** A WHOLE ORDER by slots, with the place of each. */
    private static final class Line {
        private final Muster muster;
        final int[] row = new int[HENS];
        private final int[] place = new int[HENS];
        private final int[] heavier = new int[HENS];

        Line(Muster muster) {
            this.muster = muster;
        }

        /** Answers whether the hand is WHOLE; if it is not, nothing of the line is to be used. */
        boolean readFrom(Hand hand) {
            muster.gather();
            if (hand.size != muster.size) {
                return false;
            }
            for (int i = 0; i < hand.size; i++) {
                int slot = muster.slotOf[hand.hens[i]];
                if (slot == NOT_THERE) {
                    return false;
                }
                row[i] = slot;
                place[slot] = i;
            }
            return true;
        }

        void writeTo(Hand hand) {
            hand.size = 0;
            for (int i = 0; i < muster.size; i++) {
                hand.append(muster.hens[row[i]]);
            }
        }

        long upsetWeight() {
            long sum = 0;
            for (int low = 1; low < muster.size; low++) {
                for (int high = 0; high < low; high++) {
                    sum += muster.peckOf(row[low], row[high]);
                }
            }
            return sum;
        }

        long leastFault() {
            for (int slot = 0; slot < muster.size; slot++) {
                if (!isKept(slot)) {
                    return muster.hens[slot];
                }
            }
            return NONE;
        }

        private boolean isKept(int slot) {
            int asked = muster.wants[slot];
            if (asked == NOT_THERE) {
                return true;
            }
            int down = place[slot] - place[asked];
            switch (muster.kind[slot]) {
                case PULLET:
                    return down > 0;
                case OLD:
                    return down < 0;
                case PAIR:
                    return down == 1;
                default:
                    return true;
            }
        }

        /** Does the best of the lawful moves that make the order lighter; answers whether there is one. */
        boolean improve() {
            int lightest = 0;
            int from = NOT_THERE;
            int to = NOT_THERE;
            for (int slot = 0; slot < muster.size; slot++) {
                int start = place[slot];
                weighMoves(start);
                for (int end = 0; end < muster.size; end++) {
                    if (heavier[end] < lightest && isLawfulAfter(start, end)) {
                        lightest = heavier[end];
                        from = start;
                        to = end;
                    }
                }
            }
            if (from == NOT_THERE) {
                return false;
            }
            moveSlot(from, to);
            return true;
        }

        /** How much heavier the order is after the move from a place to each other one. */
        private void weighMoves(int from) {
            int slot = row[from];
            heavier[from] = 0;
            for (int to = from + 1; to < muster.size; to++) {
                heavier[to] = heavier[to - 1] + muster.peckOf(slot, row[to]) - muster.peckOf(row[to], slot);
            }
            for (int to = from - 1; to >= 0; to--) {
                heavier[to] = heavier[to + 1] + muster.peckOf(row[to], slot) - muster.peckOf(slot, row[to]);
            }
        }

        private boolean isLawfulAfter(int from, int to) {
            moveSlot(from, to);
            boolean isLawful = leastFault() == NONE;
            moveSlot(to, from);
            return isLawful;
        }

        private void moveSlot(int from, int to) {
            shift(row, from, to);
            for (int i = Math.min(from, to); i <= Math.max(from, to); i++) {
                place[row[i]] = i;
            }
        }
    }

    /** Those among whom pecks lead round. */
    private static final class Groups {
        private final Muster muster;
        private int settledAt = -1;
        int size;
        final int[] groupAt = new int[HENS];
        private final int[] reached = new int[HENS];

        Groups(Muster muster) {
            this.muster = muster;
        }

        void settle() {
            muster.gather();
            if (settledAt == muster.stamp) {
                return;
            }
            settledAt = muster.stamp;
            followPecks();
            size = 0;
            int left = muster.all();
            for (int round = 0; round < muster.size && left != 0; round++) {
                int members = nextGroup(left);
                for (int slot = 0; slot < muster.size; slot++) {
                    if (isIn(members, slot)) {
                        groupAt[slot] = size;
                    }
                }
                left &= ~members;
                size++;
            }
        }

        private void followPecks() {
            for (int slot = 0; slot < muster.size; slot++) {
                reached[slot] = 1 << slot;
                for (int other = 0; other < muster.size; other++) {
                    if (muster.peckOf(slot, other) > 0) {
                        reached[slot] |= 1 << other;
                    }
                }
            }
            for (int middle = 0; middle < muster.size; middle++) {
                for (int slot = 0; slot < muster.size; slot++) {
                    if (isIn(reached[slot], middle)) {
                        reached[slot] |= reached[middle];
                    }
                }
            }
        }

        /** Slots are gone through upward, so the first group that fits is that of the least hen. */
        private int nextGroup(int left) {
            for (int slot = 0; slot < muster.size; slot++) {
                if (isIn(left, slot)) {
                    int comers = comersTo(slot) & left;
                    if ((comers & ~reached[slot]) == 0) {
                        return comers;
                    }
                }
            }
            return left;
        }

        private int comersTo(int slot) {
            int comers = 0;
            for (int other = 0; other < muster.size; other++) {
                if (isIn(reached[other], slot)) {
                    comers |= 1 << other;
                }
            }
            return comers;
        }
    }

    /** The rings that were PACKED last. They hold hens, not slots, since changes come after. */
    private static final class Rings {
        /** Each ring uses up a peck at least, and there are no more than so many. */
        private static final int MOST = HENS * (HENS - 1);

        private final Muster muster;
        int size;
        private final int[] shares = new int[MOST];
        private final int[] lengths = new int[MOST];
        private final int[] members = new int[MOST * HENS];
        private final int[] left = new int[HENS * HENS];
        private final int[] peckedBy = new int[HENS];
        private final int[] peckersOf = new int[HENS];
        private final int[] layers = new int[HENS];
        private final int[] found = new int[HENS];

        Rings(Muster muster) {
            this.muster = muster;
        }

        long packAll() {
            muster.gather();
            takeAllPecks();
            size = 0;
            long bound = 0;
            for (int round = 0; round < MOST; round++) {
                int length = findShortest();
                if (length == 0) {
                    break;
                }
                int share = useUp(length);
                keepFound(length, share);
                bound += share;
            }
            return bound;
        }

        private void takeAllPecks() {
            Arrays.fill(peckedBy, 0);
            Arrays.fill(peckersOf, 0);
            for (int slot = 0; slot < muster.size; slot++) {
                for (int other = 0; other < muster.size; other++) {
                    int weight = muster.peckOf(slot, other);
                    left[slot * HENS + other] = weight;
                    if (weight > 0) {
                        peckedBy[slot] |= 1 << other;
                        peckersOf[other] |= 1 << slot;
                    }
                }
            }
        }

        /** The length of the ring that is due, whose slots are then the found ones; 0: there is none. */
        private int findShortest() {
            int shortest = 0;
            for (int start = 0; start < muster.size; start++) {
                int below = shortest == 0 ? muster.size + 1 : shortest;
                int length = lengthFrom(start, below);
                if (length > 0) {
                    shortest = length;
                    trace(start, length);
                }
            }
            return shortest;
        }

        /**
         * The least length, if it is below another, of a ring whose least slot is this one; 0: none.
         * Layers are made backward from the start, so that the first way onward can be picked in them.
         */
        private int lengthFrom(int start, int below) {
            int fresh = muster.all() & -(2 << start);
            layers[0] = 1 << start;
            for (int far = 1; far + 1 < below && far < HENS; far++) {
                layers[far] = peckersOfSet(layers[far - 1]) & fresh;
                fresh &= ~layers[far];
                if (layers[far] == 0) {
                    return 0;
                }
                if ((peckedBy[start] & layers[far]) != 0) {
                    return far + 1;
                }
            }
            return 0;
        }

        private int peckersOfSet(int set) {
            int peckers = 0;
            for (int slot = 0; slot < muster.size; slot++) {
                if (isIn(set, slot)) {
                    peckers |= peckersOf[slot];
                }
            }
            return peckers;
        }

        private void trace(int start, int length) {
            found[0] = start;
            for (int i = 1; i < length; i++) {
                int open = peckedBy[found[i - 1]] & layers[length - i];
                found[i] = leastOf(open);
            }
        }

        private static int leastOf(int set) {
            return set == 0 ? 0 : Integer.bitCount((set & -set) - 1);
        }

        private int useUp(int length) {
            int share = MOST_WEIGHT;
            for (int i = 0; i < length; i++) {
                share = Math.min(share, left[foundPeck(i, length)]);
            }
            for (int i = 0; i < length; i++) {
                int peck = foundPeck(i, length);
                left[peck] -= share;
                if (left[peck] == 0) {
                    peckedBy[peck / HENS] &= ~(1 << peck % HENS);
                    peckersOf[peck % HENS] &= ~(1 << peck / HENS);
                }
            }
            return share;
        }

        private int foundPeck(int i, int length) {
            int next = i + 1 < length ? i + 1 : 0;
            return found[i] * HENS + found[next];
        }

        private void keepFound(int length, int share) {
            shares[size] = share;
            lengths[size] = length;
            for (int i = 0; i < length; i++) {
                members[size * HENS + i] = muster.hens[found[i]];
            }
            size++;
        }

        long tell(int i, int what) {
            if (what == 0) {
                return shares[i];
            }
            if (what == 1) {
                return lengths[i];
            }
            return what - 2 < lengths[i] ? members[i * HENS + what - 2] : NONE;
        }
    }

    /** Who leads to whom by what is asked, to tell why there is no LAWFUL ORDER. */
    private static final class Leads {
        /** Each round but the last adds something to 12 rows of 12. */
        private static final int MOST_ROUNDS = HENS * HENS + 1;

        private final Muster muster;
        private final int[] leads = new int[HENS];
        private final int[] blocks = new int[HENS];

        Leads(Muster muster) {
            this.muster = muster;
        }

        long reason() {
            muster.gather();
            for (int slot = 0; slot < muster.size; slot++) {
                if (Integer.bitCount(muster.pairs[slot]) > 1) {
                    return TWO_ASK + muster.hens[slot];
                }
            }
            followAsking();
            for (int slot = 0; slot < muster.size; slot++) {
                if (isIn(leads[slot], slot)) {
                    return muster.hens[slot];
                }
            }
            return NONE;
        }

        private void followAsking() {
            for (int slot = 0; slot < muster.size; slot++) {
                leads[slot] = muster.below[slot];
                blocks[slot] = blockOf(slot);
            }
            for (int round = 0; round < MOST_ROUNDS; round++) {
                boolean isMore = false;
                for (int slot = 0; slot < muster.size; slot++) {
                    isMore |= leadOn(slot);
                    isMore |= leadAsBlock(blocks[slot]);
                }
                if (!isMore) {
                    return;
                }
            }
        }

        private int blockOf(int slot) {
            int block = 1 << slot;
            for (int round = 0; round < muster.size; round++) {
                for (int member = 0; member < muster.size; member++) {
                    if (isIn(block, member)) {
                        block |= muster.pairs[member];
                    }
                }
            }
            return block;
        }

        private boolean leadOn(int slot) {
            int more = 0;
            for (int next = 0; next < muster.size; next++) {
                if (isIn(leads[slot], next)) {
                    more |= leads[next];
                }
            }
            return addLeads(slot, more);
        }

        private boolean leadAsBlock(int block) {
            int onward = 0;
            for (int slot = 0; slot < muster.size; slot++) {
                if (isIn(block, slot)) {
                    onward |= leads[slot] & ~block;
                }
            }
            boolean isMore = false;
            for (int slot = 0; slot < muster.size; slot++) {
                if (isIn(block, slot)) {
                    isMore |= addLeads(slot, onward);
                } else if ((leads[slot] & block) != 0) {
                    isMore |= addLeads(slot, block);
                }
            }
            return isMore;
        }

        private boolean addLeads(int slot, int more) {
            int before = leads[slot];
            leads[slot] |= more;
            return leads[slot] != before;
        }
    }
}
