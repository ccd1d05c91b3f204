import java.math.BigInteger;
import java.util.ArrayDeque;
import java.util.ArrayList;
import java.util.Arrays;
import java.util.Deque;
import java.util.HashSet;
import java.util.List;
import java.util.Set;
import java.util.TreeSet;

/**
 * The document told a second time, as slowly and literally as it stands there, to be compared with the class.
 * It shares no code with it and goes other ways where there are any: permutations for Shapley values, a set of
 * letters that may follow for the error position, a growing set for the reached nodes.
 */
final class Model {
    static final int UNKNOWN = -1, BAD = -2, LATE = -3, FULL = -4, NONE = -9;

    /** What a text tells of a node or a link that never changes. */
    record Kind(char letter, int cycle, int phase) { }

    record Ends(int a, int b, int slots) { }

    record Route(int parent, int cost, int sequence) { }

    record Bound(int sequence, int cost) { }

    record Offer(int sequence, int cost) { }

    record Seen(int node, int n, boolean is) { }

    static final class Moment {
        int[] offsets, losses, backs;
        boolean[] down;
        Route[] routes;
        Bound[] bounds;
        int margin, sequence, rounds;

        Moment copy() {
            Moment m = new Moment();
            m.offsets = offsets.clone();
            m.losses = losses.clone();
            m.backs = backs.clone();
            m.down = down.clone();
            m.routes = routes.clone();
            m.bounds = bounds.clone();
            m.margin = margin;
            m.sequence = sequence;
            m.rounds = rounds;
            return m;
        }
    }

    private String text = "";
    private List<Kind> kinds = new ArrayList<>();
    private List<Ends> ends = new ArrayList<>();
    private Moment now;
    private final Deque<Moment> changes = new ArrayDeque<>();
    private final Moment[] saved = new Moment[2];
    private final List<Seen> seen = new ArrayList<>();
    private long random = 0;

    Model() {
        now = new Moment();
        now.offsets = new int[0];
        now.losses = new int[0];
        now.backs = new int[0];
        now.down = new boolean[0];
        now.routes = new Route[0];
        now.bounds = new Bound[0];
    }

    int write(int letter) {
        if (letter < 0 || letter > 255) return BAD;
        if (text.length() == 100) return FULL;
        text += (char) letter;
        return text.length();
    }

    int wipe() {
        int n = text.length();
        text = "";
        return n;
    }

    /** The letters that may follow a text that some mesh text begins with; '.' means that it may end here. */
    private static Set<Character> mayFollow(String start) {
        if (start.isEmpty()) return setOf("M");
        if (start.length() == 1) return setOf("0123456789");
        int i = 2;
        int nodes = 0;
        List<Set<Integer>> pairs = new ArrayList<>();
        while (i < start.length()) {
            String part = start.substring(i);
            char c = part.charAt(0);
            if (c == 'g') {
                if (part.length() < 2) return setOf("0123456789");
                i += 2;
                nodes++;
            } else if (c == 'r') {
                i += 1;
                nodes++;
            } else if (c == 'l') {
                if (part.length() < 2) return setOf("123456789");
                if (part.length() < 3) return setOf("0123456789".substring(0, part.charAt(1) - '0'));
                i += 3;
                nodes++;
            } else {
                if (part.length() < 2) return freeNodes(nodes, pairs);
                int a = part.charAt(1) - '0';
                if (part.length() < 3) return freePartners(a, nodes, pairs);
                int b = part.charAt(2) - '0';
                if (part.length() < 5) return setOf("0123456789");
                if (part.length() < 6) return setOf("123456789");
                pairs.add(Set.of(a, b));
                i += 6;
            }
        }
        Set<Character> all = setOf(".");
        if (nodes < 8) all.addAll(setOf("grl"));
        if (pairs.size() < 9 && !freeNodes(nodes, pairs).isEmpty()) all.add('k');
        return all;
    }

    private static Set<Character> freeNodes(int nodes, List<Set<Integer>> pairs) {
        Set<Character> all = new TreeSet<>();
        for (int a = 0; a < nodes; a++) {
            if (!freePartners(a, nodes, pairs).isEmpty()) all.add((char) ('0' + a));
        }
        return all;
    }

    private static Set<Character> freePartners(int a, int nodes, List<Set<Integer>> pairs) {
        Set<Character> all = new TreeSet<>();
        for (int b = 0; b < nodes; b++) {
            if (b != a && !pairs.contains(Set.of(a, b))) all.add((char) ('0' + b));
        }
        return all;
    }

    private static Set<Character> setOf(String letters) {
        Set<Character> all = new TreeSet<>();
        for (char c : letters.toCharArray()) all.add(c);
        return all;
    }

    int fault() {
        for (int i = 0; i < text.length(); i++) {
            char c = text.charAt(i);
            if (c == '.' || !mayFollow(text.substring(0, i)).contains(c)) return i;
        }
        return mayFollow(text).contains('.') ? NONE : text.length();
    }

    int mesh() {
        if (fault() != NONE) return LATE;
        kinds = new ArrayList<>();
        ends = new ArrayList<>();
        List<Integer> offsets = new ArrayList<>(), losses = new ArrayList<>(), backs = new ArrayList<>();
        for (int i = 2; i < text.length();) {
            char c = text.charAt(i);
            if (c == 'g') {
                kinds.add(new Kind('g', 0, 0));
                offsets.add(digit(i + 1));
                i += 2;
            } else if (c == 'r') {
                kinds.add(new Kind('r', 0, 0));
                offsets.add(0);
                i += 1;
            } else if (c == 'l') {
                kinds.add(new Kind('l', digit(i + 1), digit(i + 2)));
                offsets.add(0);
                i += 3;
            } else {
                ends.add(new Ends(digit(i + 1), digit(i + 2), digit(i + 5)));
                losses.add(digit(i + 3));
                backs.add(digit(i + 4));
                i += 6;
            }
        }
        now = new Moment();
        now.offsets = offsets.stream().mapToInt(v -> v).toArray();
        now.losses = losses.stream().mapToInt(v -> v).toArray();
        now.backs = backs.stream().mapToInt(v -> v).toArray();
        now.down = new boolean[ends.size()];
        now.routes = new Route[kinds.size()];
        now.bounds = new Bound[kinds.size()];
        Arrays.fill(now.bounds, new Bound(0, 9999));
        now.margin = digit(1);
        changes.clear();
        Arrays.fill(saved, null);
        return kinds.size();
    }

    private int digit(int i) {
        return text.charAt(i) - '0';
    }

    private boolean isNode(int node) {
        return node >= 0 && node < kinds.size();
    }

    private boolean isGateway(int node) {
        return isNode(node) && kinds.get(node).letter() == 'g';
    }

    private boolean isLink(int link) {
        return link >= 0 && link < ends.size();
    }

    private int airtime(Moment m, int link) {
        double exact = 100.0 * ends.get(link).slots() / ((10 - m.losses[link]) * (10 - m.backs[link]));
        int t = 0;
        while (t < exact - 1e-9) t++;
        return t;
    }

    /** The link that makes them near, or -1. */
    private int near(Moment m, int a, int b) {
        for (int k = 0; k < ends.size(); k++) {
            Ends e = ends.get(k);
            if (!m.down[k] && Set.of(e.a(), e.b()).equals(Set.of(a, b))) return k;
        }
        return -1;
    }

    private Offer offer(Moment m, int node, Set<Integer> silent) {
        char letter = kinds.get(node).letter();
        if (letter == 'g') return silent.contains(node) ? null : new Offer(m.sequence, m.offsets[node]);
        if (letter == 'r' && m.routes[node] != null) return new Offer(m.routes[node].sequence(), m.routes[node].cost());
        return null;
    }

    private static boolean feasible(Offer o, Bound b) {
        return o.sequence() > b.sequence() || o.sequence() == b.sequence() && o.cost() < b.cost();
    }

    private boolean awake(int node, int before) {
        Kind k = kinds.get(node);
        return k.letter() != 'l' || before % k.cycle() == k.phase();
    }

    private Moment after(Moment m, Set<Integer> silent) {
        Moment next = m.copy();
        boolean asks = false;
        for (int i = 0; i < kinds.size(); i++) {
            if (isGateway(i) || !awake(i, m.rounds)) continue;
            Route r = m.routes[i];
            Bound b = m.bounds[i];
            if (r != null) {
                int k = near(m, i, r.parent());
                Offer o = offer(m, r.parent(), silent);
                r = k >= 0 && o != null && feasible(o, b)
                    ? new Route(r.parent(), o.cost() + airtime(m, k), o.sequence()) : null;
            }
            boolean heard = false;
            Route best = null;
            for (int j = 0; j < kinds.size(); j++) {
                int k = j == i ? -1 : near(m, i, j);
                Offer o = k < 0 ? null : offer(m, j, silent);
                if (o == null) continue;
                heard = true;
                int price = o.cost() + airtime(m, k);
                if (feasible(o, b) && (best == null || price < best.cost())) best = new Route(j, price, o.sequence());
            }
            if (best != null && (r == null || r.cost() > best.cost() + m.margin)) r = best;
            if (r != null) {
                if (r.sequence() > b.sequence()) b = new Bound(r.sequence(), r.cost());
                else b = new Bound(b.sequence(), Math.min(b.cost(), r.cost()));
            }
            if (r == null && heard) asks = true;
            next.routes[i] = r;
            next.bounds[i] = b;
        }
        if (asks) next.sequence++;
        next.rounds++;
        return next;
    }

    private Moment after(Moment m, int n) {
        Moment t = m;
        for (int i = 0; i < n; i++) t = after(t, Set.of());
        return t;
    }

    /** For each node the gateway at which its route ends, or NONE. */
    private int[] routeEnds(Moment m) {
        int[] end = new int[kinds.size()];
        Arrays.fill(end, NONE);
        for (int i = 0; i < end.length; i++) if (isGateway(i)) end[i] = i;
        boolean grows = true;
        while (grows) {
            grows = false;
            for (int i = 0; i < end.length; i++) {
                if (end[i] == NONE && m.routes[i] != null && end[m.routes[i].parent()] != NONE) {
                    end[i] = end[m.routes[i].parent()];
                    grows = true;
                }
            }
        }
        return end;
    }

    private int reachedCount(Moment m) {
        int count = 0;
        for (int e : routeEnds(m)) if (e != NONE) count++;
        return count;
    }

    private int load(Moment m, int gateway) {
        int count = -1;
        for (int e : routeEnds(m)) if (e == gateway) count++;
        return count;
    }

    private static int bits(Set<Integer> set) {
        int all = 0;
        for (int k : set) all += 1 << k;
        return all;
    }

    int about(int what) {
        Set<Integer> set = new HashSet<>();
        switch (what) {
            case 0: return kinds.size();
            case 1: return ends.size();
            case 2:
            case 3:
                for (int i = 0; i < kinds.size(); i++) if (kinds.get(i).letter() == (what == 2 ? 'g' : 'l')) set.add(i);
                return bits(set);
            case 4: return now.margin;
            case 5: return now.sequence;
            case 6: return now.rounds;
            case 7:
                int[] end = routeEnds(now);
                for (int i = 0; i < end.length; i++) if (end[i] != NONE) set.add(i);
                return bits(set);
            case 8:
                for (int k = 0; k < ends.size(); k++) if (now.down[k]) set.add(k);
                return bits(set);
            case 9: return changes.size();
            case 10: return seen.size();
            case 11: return text.length();
            default: return BAD;
        }
    }

    private int property(Moment m, int node, int what) {
        Kind k = kinds.get(node);
        Route r = m.routes[node];
        switch (what) {
            case 0: return "grl".indexOf(k.letter());
            case 1: return k.letter() == 'g' ? m.offsets[node] : k.cycle();
            case 2: return k.phase();
            case 3: return r == null ? NONE : r.parent();
            case 4: return r == null ? NONE : r.cost();
            case 5: return r == null ? NONE : r.sequence();
            case 6: return isGateway(node) ? NONE : m.bounds[node].sequence();
            case 7: return isGateway(node) ? NONE : m.bounds[node].cost();
            case 8: return routeEnds(m)[node];
            default: return isGateway(node) ? load(m, node) : NONE;
        }
    }

    int node(int node, int what) {
        if (!isNode(node)) return UNKNOWN;
        if (what < 0 || what > 9) return BAD;
        return property(now, node, what);
    }

    int link(int link, int what) {
        if (!isLink(link)) return UNKNOWN;
        if (what < 0 || what > 6) return BAD;
        Ends e = ends.get(link);
        return new int[] {e.a(), e.b(), now.losses[link], now.backs[link], e.slots(), airtime(now, link),
            now.down[link] ? 1 : 0}[what];
    }

    int price(int from, int to) {
        if (!isNode(from) || !isNode(to)) return UNKNOWN;
        if (from == to || isGateway(to)) return BAD;
        int k = near(now, from, to);
        Offer o = offer(now, from, Set.of());
        return k < 0 || o == null ? NONE : o.cost() + airtime(now, k);
    }

    int safe(int from, int to) {
        int p = price(from, to);
        if (p < 0) return p;
        return feasible(offer(now, from, Set.of()), now.bounds[to]) ? 1 : 0;
    }

    private void change() {
        changes.addLast(now.copy());
        if (changes.size() > 14) changes.removeFirst();
    }

    int round(int n) {
        if (n < 1 || n > 99) return BAD;
        change();
        now = after(now, n);
        return reachedCount(now);
    }

    int turn(int link) {
        if (!isLink(link)) return UNKNOWN;
        change();
        now.down[link] = !now.down[link];
        return now.down[link] ? 1 : 0;
    }

    int lose(int link, boolean back, int v) {
        if (!isLink(link)) return UNKNOWN;
        if (v < 0 || v > 9) return BAD;
        change();
        (back ? now.backs : now.losses)[link] = v;
        return airtime(now, link);
    }

    int offset(int gateway, int v) {
        if (!isGateway(gateway)) return UNKNOWN;
        if (v < 0 || v > 9) return BAD;
        change();
        int was = now.offsets[gateway];
        now.offsets[gateway] = v;
        return was;
    }

    int margin(int v) {
        if (v < 0 || v > 9) return BAD;
        change();
        int was = now.margin;
        now.margin = v;
        return was;
    }

    int undo() {
        if (changes.isEmpty()) return LATE;
        now = changes.removeLast();
        return changes.size();
    }

    int ahead(int n, int node, int what) {
        if (!isNode(node)) return UNKNOWN;
        if (n < 0 || n > 99 || what < 3 || what > 9) return BAD;
        return property(after(now, n), node, what);
    }

    int still() {
        List<List<Integer>> parents = new ArrayList<>();
        Moment m = now;
        for (int n = 0; n <= 49; n++) {
            List<Integer> row = new ArrayList<>();
            for (Route r : m.routes) row.add(r == null ? NONE : r.parent());
            parents.add(row);
            m = after(m, 1);
        }
        for (int n = 0; n <= 40; n++) {
            if (new HashSet<>(parents.subList(n, n + 10)).size() == 1) return n;
        }
        return NONE;
    }

    int word(int node) {
        if (!isNode(node)) return UNKNOWN;
        int at = node;
        Moment m = now;
        for (int n = 0; n <= 60; n++) {
            if (isGateway(at)) return n;
            boolean was = awake(at, m.rounds);
            m = after(m, 1);
            if (was && m.routes[at] != null) at = m.routes[at].parent();
        }
        return NONE;
    }

    int even(int gateway) {
        if (!isGateway(gateway)) return UNKNOWN;
        int[] spread = new int[10];
        for (int v = 0; v < 10; v++) {
            Moment m = now.copy();
            m.offsets[gateway] = v;
            m = after(m, 20);
            TreeSet<Integer> loads = new TreeSet<>();
            for (int i = 0; i < kinds.size(); i++) if (isGateway(i)) loads.add(load(m, i));
            spread[v] = loads.last() - loads.first();
        }
        int best = Arrays.stream(spread).min().getAsInt();
        for (int v = 0; v < 10; v++) if (spread[v] == best) return v;
        return NONE;
    }

    int judge(int n, long row) {
        if (n < 1 || n > 3 || row < 0) return BAD;
        String digits = Long.toString(row);
        if (digits.length() > 5 * n) return BAD;
        digits = "0".repeat(5 * n - digits.length()) + digits;
        Moment m = now.copy();
        for (int i = 0; i < n; i++) {
            String e = digits.substring(5 * i, 5 * i + 5);
            int a = e.charAt(1) - '0';
            int b = e.charAt(2) - '0';
            boolean ok = e.endsWith("00");
            switch (e.charAt(0)) {
                case '1':
                    ok &= 10 * a + b >= 1;
                    m = after(m, 10 * a + b);
                    break;
                case '2':
                    ok &= isLink(a) && b == 0;
                    if (ok) m.down[a] = !m.down[a];
                    break;
                case '3':
                    ok &= isGateway(a);
                    if (ok) m.offsets[a] = b;
                    break;
                case '4':
                    ok &= isNode(a) && b < 2 && (routeEnds(m)[a] != NONE ? 1 : 0) == b;
                    break;
                case '5':
                    ok &= isNode(a) && isNode(b) && m.routes[a] != null && m.routes[a].parent() == b;
                    break;
                case '6':
                    ok &= isGateway(a) && load(m, a) == b;
                    break;
                case '7':
                    ok &= m.sequence == 10 * a + b;
                    break;
                default:
                    ok = false;
            }
            if (!ok) return i;
        }
        return NONE;
    }

    int see(int node, int n, int is) {
        if (!isNode(node)) return UNKNOWN;
        if (n < 0 || n > 20 || is < 0 || is > 1) return BAD;
        if (seen.size() == 6) return FULL;
        seen.add(new Seen(node, n, is == 1));
        return seen.size();
    }

    int unsee() {
        int n = seen.size();
        seen.clear();
        return n;
    }

    int which() {
        Set<Integer> set = new HashSet<>();
        for (int k = 0; k < ends.size(); k++) {
            if (now.down[k]) continue;
            Moment m = now.copy();
            m.down[k] = true;
            boolean all = true;
            for (Seen s : seen) {
                boolean is = isNode(s.node()) && routeEnds(after(m, s.n()))[s.node()] != NONE;
                all &= is == s.is();
            }
            if (all) set.add(k);
        }
        return bits(set);
    }

    private int worth(Set<Integer> gateways) {
        Set<Integer> silent = new HashSet<>();
        for (int i = 0; i < kinds.size(); i++) if (isGateway(i) && !gateways.contains(i)) silent.add(i);
        Moment m = now;
        for (int i = 0; i < 20; i++) m = after(m, silent);
        int count = 0;
        for (int e : routeEnds(m)) if (e != NONE && !silent.contains(e)) count++;
        return count;
    }

    private static void permute(List<Integer> rest, List<Integer> sofar, List<List<Integer>> all) {
        if (rest.isEmpty()) all.add(new ArrayList<>(sofar));
        for (int g : rest) {
            List<Integer> less = new ArrayList<>(rest);
            less.remove(Integer.valueOf(g));
            sofar.add(g);
            permute(less, sofar, all);
            sofar.remove(sofar.size() - 1);
        }
    }

    private static int lowest(BigInteger over, BigInteger under, boolean upper) {
        BigInteger g = over.gcd(under);
        return (upper ? over : under).divide(g).intValueExact();
    }

    int share(int gateway, boolean upper) {
        if (!isGateway(gateway)) return UNKNOWN;
        List<Integer> gateways = new ArrayList<>();
        for (int i = 0; i < kinds.size(); i++) if (isGateway(i)) gateways.add(i);
        List<List<Integer>> orders = new ArrayList<>();
        permute(gateways, new ArrayList<>(), orders);
        java.util.Map<Set<Integer>, Integer> known = new java.util.HashMap<>();
        long sum = 0;
        for (List<Integer> order : orders) {
            int at = order.indexOf(gateway);
            sum += known.computeIfAbsent(new HashSet<>(order.subList(0, at + 1)), this::worth);
            sum -= known.computeIfAbsent(new HashSet<>(order.subList(0, at)), this::worth);
        }
        return lowest(BigInteger.valueOf(sum), BigInteger.valueOf(orders.size()), upper);
    }

    /** Ten to the power of the number of links, times the probability, with the links from k on still open. */
    private BigInteger tenths(Moment m, int k, int x) {
        if (k == ends.size()) return reachedCount(after(m, 20)) == kinds.size() ? BigInteger.ONE : BigInteger.ZERO;
        if (m.down[k]) return tenths(m, k + 1, x).multiply(BigInteger.TEN);
        Moment without = m.copy();
        without.down[k] = true;
        BigInteger lost = x == 0 ? BigInteger.ZERO : tenths(without, k + 1, x).multiply(BigInteger.valueOf(x));
        BigInteger stays = x == 10 ? BigInteger.ZERO : tenths(m, k + 1, x).multiply(BigInteger.valueOf(10 - x));
        return lost.add(stays);
    }

    int chance(int x, boolean upper) {
        if (x < 0 || x > 10) return BAD;
        return lowest(tenths(now, 0, x), BigInteger.TEN.pow(ends.size()), upper);
    }

    long seed(long v) {
        long was = random;
        random = v;
        return was;
    }

    int drawn(int m) {
        if (m < 1 || m > 20) return BAD;
        BigInteger whole = BigInteger.ONE.shiftLeft(64);
        Moment t = now.copy();
        int sum = 0;
        for (int i = 0; i < m; i++) {
            BigInteger x = BigInteger.valueOf(random).multiply(new BigInteger("6364136223846793005"))
                .add(new BigInteger("1442695040888963407")).mod(whole);
            random = x.longValue();
            int v = x.shiftRight(33).intValueExact();
            if (ends.isEmpty()) continue;
            int k = v % ends.size();
            if ((v / 16) % 2 == 0) t.down[k] = !t.down[k];
            t = after(t, 1);
            sum += kinds.size() - reachedCount(t);
        }
        return sum;
    }

    int keep(int slot) {
        if (slot < 0 || slot > 1) return UNKNOWN;
        saved[slot] = now.copy();
        return now.rounds;
    }

    int again(int slot) {
        if (slot < 0 || slot > 1) return UNKNOWN;
        if (saved[slot] == null) return LATE;
        now = saved[slot].copy();
        changes.clear();
        return now.rounds;
    }
}
