import java.util.ArrayList;
import java.util.List;
import java.util.TreeSet;

/**
 * The document done over in the slowest and plainest way, to be held against PeckYard: all orders
 * are written out one by one, all rings are tried in turn, each change keeps a copy of all hens.
 */
final class SlowYard {
    static final long BAD = -2000000001L, NO = -2000000002L, FULL = -2000000003L, NONE = -2000000005L;

    private static final class Hen {
        int kind;
        long asks;
        boolean in;
        int width = -1;
        long[] pen = new long[12];

        Hen copy() {
            Hen other = new Hen();
            other.kind = kind;
            other.asks = asks;
            other.in = in;
            other.width = width;
            other.pen = pen.clone();
            return other;
        }
    }

    private List<Hen> hens = new ArrayList<>();
    private final List<List<Hen>> before = new ArrayList<>();
    private List<Integer> hand = new ArrayList<>();
    private final List<List<Integer>> rings = new ArrayList<>();
    private final List<Long> shares = new ArrayList<>();
    /** null: to be written out again. */
    private List<List<Integer>> bestOnes;

    private void keep() {
        List<Hen> copy = new ArrayList<>();
        for (Hen hen : hens) {
            copy.add(hen.copy());
        }
        before.add(copy);
        if (before.size() > 8) {
            before.remove(0);
        }
        bestOnes = null;
    }

    private boolean there(int hen) {
        return 0 <= hen && hen < hens.size();
    }

    boolean counts(long hen) {
        return hen >= 0 && hen < hens.size() && (hens.get((int) hen).kind != 4 || hens.get((int) hen).in);
    }

    List<Integer> counting() {
        List<Integer> all = new ArrayList<>();
        for (int h = 0; h < hens.size(); h++) {
            if (counts(h)) {
                all.add(h);
            }
        }
        return all;
    }

    private static boolean other(int hen, long asks) {
        return 0 <= asks && asks <= 11 && asks != hen;
    }

    long hen(int kind, int asks) {
        if (kind < 0 || kind > 4 || !(asks == NONE || other(hens.size(), asks))) return BAD;
        if (hens.size() == 12) return FULL;
        keep();
        Hen hen = new Hen();
        hen.kind = kind;
        hen.asks = asks;
        hens.add(hen);
        return hens.size() - 1;
    }

    long ask(int hen, int asks) {
        if (!there(hen) || !(asks == NONE || other(hen, asks))) return BAD;
        keep();
        long was = hens.get(hen).asks;
        hens.get(hen).asks = asks;
        return was;
    }

    long take(int hen, int in) {
        if (!there(hen) || in < 0 || in > 1) return BAD;
        if (hens.get(hen).kind != 4) return NO;
        keep();
        long was = hens.get(hen).in ? 1 : 0;
        hens.get(hen).in = in == 1;
        return was;
    }

    long pen(int hen, int width) {
        if (!there(hen) || width < 0 || width > 3) return BAD;
        keep();
        hens.get(hen).pen = new long[12];
        hens.get(hen).width = width;
        return 0;
    }

    long peck(int hen, int other, long weight) {
        if (!there(hen) || !other(hen, other)) return BAD;
        int width = hens.get(hen).width;
        long most = width == 0 ? 127 : width == 1 ? 32767 : 1000000;
        if (weight < 0 || weight > most) return BAD;
        if (width < 0) return NO;
        keep();
        long was = hens.get(hen).pen[other];
        hens.get(hen).pen[other] = weight;
        return was;
    }

    long leave(int hen) {
        if (!there(hen)) return BAD;
        if (hens.get(hen).width < 0) return NO;
        keep();
        hens.get(hen).width = -1;
        hens.get(hen).pen = new long[12];
        return 0;
    }

    long about(int hen, int what) {
        if (!there(hen) || what < 0 || what > 3) return BAD;
        Hen it = hens.get(hen);
        if (what == 0) return it.kind;
        if (what == 1) return it.asks;
        if (what == 2) return counts(hen) ? 1 : 0;
        return it.width < 0 ? NONE : it.width;
    }

    long isOf(int hen, int kind) {
        if (!there(hen) || kind < 0 || kind > 4) return BAD;
        int own = hens.get(hen).kind;
        return kind == 0 || kind == own || kind == 1 && own == 3 ? 1 : 0;
    }

    long pecks(int hen, int other) {
        return there(hen) && other(hen, other) ? hens.get(hen).pen[other] : BAD;
    }

    long undo() {
        if (before.isEmpty()) return NO;
        hens = before.remove(before.size() - 1);
        bestOnes = null;
        return before.size();
    }

    // ---- orders

    private long asked(int hen) {
        int kind = hens.get(hen).kind;
        long asks = hens.get(hen).asks;
        return kind >= 1 && kind <= 3 && counts(hen) && counts(asks) ? asks : NONE;
    }

    private boolean keepsAsking(List<Integer> order, int hen) {
        long asks = asked(hen);
        if (asks == NONE) return true;
        int own = order.indexOf(hen);
        int its = order.indexOf((int) asks);
        int kind = hens.get(hen).kind;
        return kind == 1 ? own > its : kind == 2 ? own < its : own == its + 1;
    }

    private boolean lawful(List<Integer> order) {
        for (int hen : order) {
            if (!keepsAsking(order, hen)) return false;
        }
        return true;
    }

    private long weightOf(List<Integer> order) {
        long sum = 0;
        for (int i = 0; i < order.size(); i++) {
            for (int k = 0; k < i; k++) {
                sum += hens.get(order.get(i)).pen[order.get(k)];
            }
        }
        return sum;
    }

    private void writeOut(List<Integer> begun, List<Integer> left, List<List<Integer>> into) {
        if (left.isEmpty()) {
            into.add(new ArrayList<>(begun));
            return;
        }
        for (int i = 0; i < left.size(); i++) {
            List<Integer> rest = new ArrayList<>(left);
            begun.add(rest.remove(i));
            writeOut(begun, rest, into);
            begun.remove(begun.size() - 1);
        }
    }

    private List<List<Integer>> wholeOnes() {
        List<List<Integer>> all = new ArrayList<>();
        writeOut(new ArrayList<>(), counting(), all);
        return all;
    }

    private List<List<Integer>> bestOrders() {
        if (bestOnes == null) {
            bestOnes = new ArrayList<>();
            long least = Long.MAX_VALUE;
            for (List<Integer> order : wholeOnes()) {
                if (lawful(order) && weightOf(order) <= least) {
                    if (weightOf(order) < least) bestOnes.clear();
                    least = weightOf(order);
                    bestOnes.add(order);
                }
            }
        }
        return bestOnes;
    }

    long least() {
        return bestOrders().isEmpty() ? NONE : weightOf(bestOrders().get(0));
    }

    long many() {
        return bestOrders().size();
    }

    long best(long k) {
        if (k < 0) return BAD;
        if (k >= bestOrders().size()) return NONE;
        hand = new ArrayList<>(bestOrders().get((int) k));
        return hand.size();
    }

    private boolean whole() {
        return new TreeSet<>(hand).equals(new TreeSet<>(counting())) && hand.size() == counting().size();
    }

    long number() {
        if (!whole()) return NO;
        int at = bestOrders().indexOf(hand);
        return at < 0 ? NONE : at;
    }

    long sure(int hen, int other) {
        if (hen == other || !counts(hen) || !counts(other)) return BAD;
        if (bestOrders().isEmpty()) return NONE;
        int above = 0;
        for (List<Integer> order : bestOrders()) {
            if (order.indexOf(hen) < order.indexOf(other)) above++;
        }
        return above == bestOrders().size() ? 1 : above == 0 ? 2 : 0;
    }

    // ---- why

    private TreeSet<Integer> blockOf(int hen) {
        TreeSet<Integer> block = new TreeSet<>();
        List<Integer> open = new ArrayList<>(List.of(hen));
        while (!open.isEmpty()) {
            int next = open.remove(0);
            if (block.add(next)) {
                for (int pair : counting()) {
                    if (hens.get(pair).kind == 3 && asked(pair) == next) open.add(pair);
                }
            }
        }
        return block;
    }

    private boolean[][] leads() {
        boolean[][] to = new boolean[12][12];
        for (int hen : counting()) {
            int asks = (int) asked(hen);
            if (asks == NONE) continue;
            if (hens.get(hen).kind == 2) to[hen][asks] = true;
            else to[asks][hen] = true;
        }
        boolean more = true;
        while (more) {
            more = false;
            for (int a : counting()) for (int b : counting()) for (int c : counting()) {
                if (to[a][c]) continue;
                boolean byWay = to[a][b] && to[b][c];
                boolean byBlock = false;
                for (int head : counting()) {
                    TreeSet<Integer> block = blockOf(head);
                    byBlock |= block.contains(a) && block.contains(b) && !block.contains(c) && to[b][c];
                    byBlock |= !block.contains(a) && block.contains(b) && block.contains(c) && to[a][b];
                }
                if (byWay || byBlock) {
                    to[a][c] = true;
                    more = true;
                }
            }
        }
        return to;
    }

    long why() {
        for (int hen : counting()) {
            int pairs = 0;
            for (int pair : counting()) {
                if (hens.get(pair).kind == 3 && asked(pair) == hen) pairs++;
            }
            if (pairs >= 2) return 100 + hen;
        }
        boolean[][] to = leads();
        for (int hen : counting()) {
            if (to[hen][hen]) return hen;
        }
        return NONE;
    }

    // ---- the order in hand

    long begin() {
        int had = hand.size();
        hand.clear();
        return had;
    }

    long stand(int hen) {
        if (!there(hen) || hand.contains(hen)) return BAD;
        if (hand.size() == 12) return FULL;
        hand.add(hen);
        return hand.size();
    }

    long order(int i) {
        return i >= 0 && i < hand.size() ? hand.get(i) : BAD;
    }

    long move(int i, int k) {
        if (i < 0 || i >= hand.size() || k < 0 || k >= hand.size()) return BAD;
        Integer hen = hand.remove(i);
        hand.add(k, hen);
        return 0;
    }

    long weight() {
        return whole() ? weightOf(hand) : NO;
    }

    long fault() {
        if (!whole()) return NO;
        for (int hen : new TreeSet<>(hand)) {
            if (!keepsAsking(hand, hen)) return hen;
        }
        return NONE;
    }

    long better(int n) {
        if (n < 1 || n > 40) return BAD;
        if (!whole()) return NO;
        int done = 0;
        while (done < n) {
            List<Integer> chosen = null;
            long lightest = weightOf(hand);
            for (int hen : new TreeSet<>(hand)) {
                for (int k = 0; k < hand.size(); k++) {
                    List<Integer> moved = new ArrayList<>(hand);
                    moved.remove((Integer) hen);
                    moved.add(k, hen);
                    if (weightOf(moved) < lightest && lawful(moved)) {
                        chosen = moved;
                        lightest = weightOf(moved);
                    }
                }
            }
            if (chosen == null) break;
            hand = chosen;
            done++;
        }
        return done;
    }

    long turn() {
        List<Integer> turned = new ArrayList<>();
        for (int hen : hand) {
            turned.add(0, hen);
        }
        hand = turned;
        return 0;
    }

    // ---- groups and rings

    private boolean reaches(int from, int to) {
        TreeSet<Integer> seen = new TreeSet<>(List.of(from));
        List<Integer> open = new ArrayList<>(seen);
        while (!open.isEmpty()) {
            int hen = open.remove(0);
            for (int next : counting()) {
                if (hens.get(hen).pen[next] > 0 && seen.add(next)) open.add(next);
            }
        }
        return seen.contains(to);
    }

    private List<TreeSet<Integer>> allGroups() {
        List<TreeSet<Integer>> left = new ArrayList<>();
        for (int hen : counting()) {
            TreeSet<Integer> group = new TreeSet<>();
            for (int other : counting()) {
                if (reaches(hen, other) && reaches(other, hen)) group.add(other);
            }
            if (!left.contains(group)) left.add(group);
        }
        left.sort((a, b) -> a.first() - b.first());
        List<TreeSet<Integer>> numbered = new ArrayList<>();
        while (!left.isEmpty()) {
            for (TreeSet<Integer> group : left) {
                boolean free = true;
                for (TreeSet<Integer> from : left) {
                    for (int a : from) for (int b : group) {
                        free &= from == group || hens.get(a).pen[b] == 0;
                    }
                }
                if (free) {
                    numbered.add(group);
                    break;
                }
            }
            left.remove(numbered.get(numbered.size() - 1));
        }
        return numbered;
    }

    long groups() {
        return allGroups().size();
    }

    long groupOf(int hen) {
        if (!there(hen)) return BAD;
        List<TreeSet<Integer>> all = allGroups();
        for (int g = 0; g < all.size(); g++) {
            if (all.get(g).contains(hen)) return g;
        }
        return NONE;
    }

    long loose() {
        long least = Long.MAX_VALUE;
        for (List<Integer> order : wholeOnes()) {
            least = Math.min(least, weightOf(order));
        }
        return least;
    }

    private boolean closeRing(List<Integer> ring, int length, long[][] left) {
        int last = ring.get(ring.size() - 1);
        if (ring.size() == length) return left[last][ring.get(0)] > 0;
        for (int next : counting()) {
            if (next > ring.get(0) && !ring.contains(next) && left[last][next] > 0) {
                ring.add(next);
                if (closeRing(ring, length, left)) return true;
                ring.remove(ring.size() - 1);
            }
        }
        return false;
    }

    private List<Integer> firstRing(long[][] left) {
        for (int length = 2; length <= counting().size(); length++) {
            for (int start : counting()) {
                List<Integer> ring = new ArrayList<>(List.of(start));
                if (closeRing(ring, length, left)) return ring;
            }
        }
        return null;
    }

    long pack() {
        long[][] left = new long[12][12];
        for (int a : counting()) for (int b : counting()) left[a][b] = hens.get(a).pen[b];
        rings.clear();
        shares.clear();
        long bound = 0;
        for (List<Integer> ring = firstRing(left); ring != null; ring = firstRing(left)) {
            long share = Long.MAX_VALUE;
            for (int i = 0; i < ring.size(); i++) {
                share = Math.min(share, left[ring.get(i)][ring.get((i + 1) % ring.size())]);
            }
            for (int i = 0; i < ring.size(); i++) {
                left[ring.get(i)][ring.get((i + 1) % ring.size())] -= share;
            }
            rings.add(ring);
            shares.add(share);
            bound += share;
        }
        return bound;
    }

    long ring(int i, int what) {
        if (i < 0 || what < 0) return BAD;
        if (i >= rings.size()) return NONE;
        if (what == 0) return shares.get(i);
        if (what == 1) return rings.get(i).size();
        return what - 2 < rings.get(i).size() ? rings.get(i).get(what - 2) : NONE;
    }

    long count(int what) {
        switch (what) {
            case 0: return hens.size();
            case 1: return counting().size();
            case 2: return hand.size();
            case 3: return before.size();
            case 4: return rings.size();
            case 5: {
                long sum = 0;
                for (int a : counting()) for (int b : counting()) sum += hens.get(a).pen[b];
                return sum;
            }
            case 6: {
                long pens = 0;
                for (Hen hen : hens) pens += hen.width < 0 ? 0 : 1;
                return pens;
            }
            default: return BAD;
        }
    }
}
