import java.util.ArrayList;
import java.util.List;
import java.util.Random;

/** Yards of up to 12 hens that COUNT: lawful orders are searched for hen by hen, whatever they weigh. */
public final class BigYardTest {
    private static final int NONE = -2000000005;
    private static final int MOST_ORDERS = 30000;
    private static int wrong = 0;

    private final int hens;
    private final PeckYard yard = new PeckYard();
    private final int[] kind = new int[12];
    private final int[] asks = new int[12];
    private final long[][] pecks = new long[12][12];
    private final List<int[]> lawful = new ArrayList<>();

    private BigYardTest(Random chance, int hens) {
        this.hens = hens;
        for (int h = 0; h < hens; h++) {
            kind[h] = chance.nextInt(5);
            asks[h] = chance.nextInt(12);
            if (asks[h] == h) asks[h] = NONE;
            due("hen", yard.hen(kind[h], asks[h]), h);
            if (kind[h] == 4) due("take", yard.take(h, 1), 0);
        }
        int most = chance.nextInt(3) == 0 ? 1000001 : 3;
        for (int h = 0; h < hens; h++) {
            due("pen", yard.pen(h, 3), 0);
            for (int other = 0; other < hens; other++) {
                if (other != h && chance.nextInt(3) > 0) {
                    pecks[h][other] = chance.nextInt(most);
                    due("peck", yard.peck(h, other, pecks[h][other]), 0);
                }
            }
        }
    }

    private static void due(String call, long got, long want) {
        if (got != want) {
            wrong++;
            if (wrong < 20) System.out.println(call + " answered " + got + ", due is " + want);
        }
    }

    private boolean isLookedAt(int hen) {
        return kind[hen] >= 1 && kind[hen] <= 3 && asks[hen] != NONE && asks[hen] < hens;
    }

    /** Whether a hen may stand next below those of the row. */
    private boolean fits(int hen, int[] row, int length, int[] place) {
        if (isLookedAt(hen)) {
            int its = place[asks[hen]];
            if (kind[hen] == 1 && its < 0 || kind[hen] == 2 && its >= 0) return false;
            if (kind[hen] == 3 && (its < 0 || its != length - 1)) return false;
        }
        for (int other = 0; other < hens; other++) {
            if (other == hen || !isLookedAt(other) || place[other] >= 0) continue;
            if (kind[other] == 2 && asks[other] == hen) return false;
            if (kind[other] == 3 && length > 0 && asks[other] == row[length - 1]) return false;
        }
        return true;
    }

    private void search(int[] row, int length, int[] place) {
        if (lawful.size() > MOST_ORDERS) return;
        if (length == hens) {
            lawful.add(row.clone());
            return;
        }
        for (int hen = 0; hen < hens; hen++) {
            if (place[hen] < 0 && fits(hen, row, length, place)) {
                row[length] = hen;
                place[hen] = length;
                search(row, length + 1, place);
                place[hen] = -1;
            }
        }
    }

    private long weightOf(int[] row) {
        long sum = 0;
        for (int low = 0; low < hens; low++) {
            for (int high = 0; high < low; high++) {
                sum += pecks[row[low]][row[high]];
            }
        }
        return sum;
    }

    private List<int[]> bestOnes() {
        List<int[]> best = new ArrayList<>();
        long least = Long.MAX_VALUE;
        for (int[] row : lawful) {
            long weight = weightOf(row);
            if (weight < least) best.clear();
            if (weight <= least) best.add(row);
            least = Math.min(least, weight);
        }
        return best;
    }

    /** The lowest are put first here, the other way round than in PeckYard. */
    private long looseWeight() {
        long[] least = new long[1 << hens];
        for (int low = 1; low < 1 << hens; low++) {
            least[low] = Long.MAX_VALUE;
            for (int top = 0; top < hens; top++) {
                if ((low >> top & 1) == 0) continue;
                long sum = least[low & ~(1 << top)];
                for (int h = 0; h < hens; h++) {
                    if (h != top && (low >> h & 1) == 1) sum += pecks[h][top];
                }
                least[low] = Math.min(least[low], sum);
            }
        }
        return least[(1 << hens) - 1];
    }

    private void checkSure(List<int[]> best) {
        for (int a = 0; a < hens; a++) {
            for (int b = 0; b < hens; b++) {
                if (a == b) continue;
                int above = 0;
                for (int[] row : best) {
                    for (int hen : row) {
                        if (hen == a) above++;
                        if (hen == a || hen == b) break;
                    }
                }
                int want = above == best.size() ? 1 : above == 0 ? 2 : 0;
                due("sure(" + a + ", " + b + ")", yard.sure(a, b), best.isEmpty() ? NONE : want);
            }
        }
    }

    private boolean check(Random chance) {
        due("loose()", yard.loose(), looseWeight());
        if (yard.pack() > yard.loose()) due("pack() is a bound", 0, 1);
        int[] place = new int[12];
        java.util.Arrays.fill(place, -1);
        search(new int[hens], 0, place);
        if (lawful.size() > MOST_ORDERS) return false;
        List<int[]> best = bestOnes();
        due("least()", yard.least(), best.isEmpty() ? NONE : weightOf(best.get(0)));
        due("many()", yard.many(), best.size());
        due("why() is NONE", yard.why() == NONE ? 1 : 0, best.isEmpty() ? 0 : 1);
        due("best(many)", yard.best(best.size()), NONE);
        checkSure(best);
        for (int n = 0; n < 10 && !best.isEmpty(); n++) {
            int k = chance.nextInt(best.size());
            due("best(k)", yard.best(k), hens);
            for (int i = 0; i < hens; i++) due("order(i)", yard.order(i), best.get(k)[i]);
            due("number()", yard.number(), k);
            due("weight()", yard.weight(), yard.least());
            due("fault()", yard.fault(), NONE);
            due("better(40)", yard.better(40), 0);
        }
        return !best.isEmpty();
    }

    /** No pecks, nothing asked: all 479001600 orders are best ones. */
    private static void checkAllOrders() {
        PeckYard yard = new PeckYard();
        for (int h = 0; h < 12; h++) due("hen", yard.hen(0, NONE), h);
        due("many()", yard.many(), 479001600L);
        due("best(479001599)", yard.best(479001599L), 12);
        for (int i = 0; i < 12; i++) due("order(i)", yard.order(i), 11 - i);
        due("number()", yard.number(), 479001599L);
        due("best(479001600)", yard.best(479001600L), NONE);
        due("best(greatest)", yard.best(Long.MAX_VALUE), NONE);
        due("sure(0, 11)", yard.sure(0, 11), 0);
    }

    /** All 132 pecks of the greatest weight: as heavy as a yard can be. */
    private static void checkHeaviest() {
        PeckYard yard = new PeckYard();
        for (int h = 0; h < 12; h++) {
            yard.hen(0, NONE);
            yard.pen(h, 2);
            for (int other = 0; other < 12; other++) {
                if (other != h) yard.peck(h, other, 1000000);
            }
        }
        due("least()", yard.least(), 66000000L);
        due("loose()", yard.loose(), 66000000L);
        due("many()", yard.many(), 479001600L);
        due("count(5)", yard.count(5), 132000000L);
        due("pack()", yard.pack(), 66000000L);
        due("count(4)", yard.count(4), 66);
        due("ring(65, 2)", yard.ring(65, 2), 10);
        due("ring(65, 3)", yard.ring(65, 3), 11);
        due("groups()", yard.groups(), 1);
    }

    /** The weights along the ring of all hens are least at its last peck. */
    private static void checkLongRing() {
        PeckYard yard = new PeckYard();
        for (int h = 0; h < 12; h++) {
            yard.hen(0, NONE);
            yard.pen(h, 1);
            yard.peck(h, (h + 5) % 12, 20 - h);
        }
        due("pack()", yard.pack(), 9);
        due("ring(0, 1)", yard.ring(0, 1), 12);
        for (int i = 0; i < 12; i++) due("ring(0, i)", yard.ring(0, 2 + i), i * 5 % 12);
        due("ring(0, 14)", yard.ring(0, 14), NONE);
        due("least()", yard.least(), 9);
        due("many()", yard.many(), 1);
        due("best(0)", yard.best(0), 12);
        due("order(11)", yard.order(11), 11);
    }

    public static void main(String[] args) {
        Random chance = new Random(7);
        int full = 0;
        for (int n = 0; n < 900; n++) {
            if (new BigYardTest(chance, 7 + n % 6).check(chance)) full++;
        }
        if (full < 50) due("yards with lawful orders looked at whole", full, 50);
        checkAllOrders();
        checkHeaviest();
        checkLongRing();
        System.out.println(wrong == 0 ? "all big yards are as due" : wrong + " answers are not as due");
        if (wrong != 0) System.exit(1);
    }
}
