/**
 * A wireless mesh whose nodes choose their parents by a loop-free distance-vector protocol.
 * The document's promises are kept here; every answer follows from the calls made before it.
 */
public final class MeshParents {
    public static final int UNKNOWN = -1, BAD = -2, LATE = -3, FULL = -4, NONE = -9;

    private static final int GATEWAY = 0, ROUTER = 1, LEAF = 2;
    private static final int MOST_NODES = 8, MOST_LINKS = 9, MOST_LETTERS = 100;
    private static final int MOST_CHANGES = 14, MOST_OBSERVATIONS = 6, MOST_SLOTS = 2;
    private static final int MOST_ROUNDS = 99, MOST_DRAWS = 20, MOST_EVENTS = 3;
    private static final int FIRST_BOUND = 9999;
    private static final int FORESIGHT = 20;
    private static final int LATEST_STILL = 40, STILL_ROUNDS = 9;
    private static final int LATEST_WORD = 60;
    private static final int EVENT_SPAN = 100000;
    private static final int NOBODY = 0;
    private static final int MOST_GCD_STEPS = 200;
    private static final long DRAW_FACTOR = 6364136223846793005L, DRAW_STEP = 1442695040888963407L;
    private static final int[] FACTORIAL = {1, 1, 2, 6, 24, 120, 720, 5040, 40320};

    private final Text text;
    private final Mesh now;
    /** Where predictions are carried out, so that they change nothing and need no new object. */
    private final Mesh trial;
    private final History history;
    private final Mesh[] saved;
    private final boolean[] isSaved;
    private final Observations observations;
    private long random;

    public MeshParents() {
        text = new Text();
        now = new Mesh();
        trial = new Mesh();
        history = new History();
        saved = new Mesh[MOST_SLOTS];
        for (int slot = 0; slot < MOST_SLOTS; slot++) {
            saved[slot] = new Mesh();
        }
        isSaved = new boolean[MOST_SLOTS];
        observations = new Observations();
        random = 0;
    }

    // ---- texts, the mesh

    public int write(int letter) {
        if (!isWithin(letter, 0, 255)) {
            return BAD;
        }
        if (text.length >= MOST_LETTERS) {
            return FULL;
        }
        text.append(letter);
        return text.length;
    }

    public int wipe() {
        int before = text.length;
        text.length = 0;
        return before;
    }

    public int fault() {
        return text.readInto(trial);
    }

    public int mesh() {
        if (text.readInto(trial) != NONE) {
            return LATE;
        }
        now.copyFrom(trial);
        history.clear();
        for (int slot = 0; slot < MOST_SLOTS; slot++) {
            isSaved[slot] = false;
        }
        return now.nodeCount;
    }

    public int about(int what) {
        switch (what) {
            case 0: return now.nodeCount;
            case 1: return now.linkCount;
            case 2: return now.nodesOfKind(GATEWAY);
            case 3: return now.nodesOfKind(LEAF);
            case 4: return now.margin;
            case 5: return now.sequence;
            case 6: return now.rounds;
            case 7: return now.reachedNodes();
            case 8: return now.downLinks();
            case 9: return history.count;
            case 10: return observations.count;
            case 11: return text.length;
            default: return BAD;
        }
    }

    public int node(int node, int what) {
        if (!now.hasNode(node)) {
            return UNKNOWN;
        }
        if (!isWithin(what, 0, 9)) {
            return BAD;
        }
        return now.nodeProperty(node, what);
    }

    public int link(int link, int what) {
        if (!now.hasLink(link)) {
            return UNKNOWN;
        }
        Link it = now.links[link];
        switch (what) {
            case 0: return it.first;
            case 1: return it.second;
            case 2: return it.loss;
            case 3: return it.lossBack;
            case 4: return it.slots;
            case 5: return it.airtime;
            case 6: return it.isDown ? 1 : 0;
            default: return BAD;
        }
    }

    public int price(int from, int to) {
        int error = offerError(from, to);
        if (error != 0) {
            return error;
        }
        int link = now.openOffer(from, to);
        return link < 0 ? NONE : now.nodes[from].offerCost + now.links[link].airtime;
    }

    public int safe(int from, int to) {
        int error = offerError(from, to);
        if (error != 0) {
            return error;
        }
        if (now.openOffer(from, to) < 0) {
            return NONE;
        }
        return now.nodes[to].isFeasible(now.nodes[from]) ? 1 : 0;
    }

    // ---- changes

    public int round(int n) {
        if (!isWithin(n, 1, MOST_ROUNDS)) {
            return BAD;
        }
        history.push(now);
        now.passRounds(n, NOBODY);
        return Integer.bitCount(now.reachedNodes());
    }

    public int turn(int link) {
        if (!now.hasLink(link)) {
            return UNKNOWN;
        }
        history.push(now);
        now.links[link].flip();
        return now.links[link].isDown ? 1 : 0;
    }

    public int lose(int link, boolean back, int v) {
        if (!now.hasLink(link)) {
            return UNKNOWN;
        }
        if (!isWithin(v, 0, 9)) {
            return BAD;
        }
        history.push(now);
        now.links[link].setLoss(back, v);
        return now.links[link].airtime;
    }

    public int offset(int gateway, int v) {
        if (!now.isGateway(gateway)) {
            return UNKNOWN;
        }
        if (!isWithin(v, 0, 9)) {
            return BAD;
        }
        history.push(now);
        int before = now.nodes[gateway].offset;
        now.nodes[gateway].offset = v;
        return before;
    }

    public int margin(int v) {
        if (!isWithin(v, 0, 9)) {
            return BAD;
        }
        history.push(now);
        int before = now.margin;
        now.margin = v;
        return before;
    }

    public int undo() {
        if (history.count == 0) {
            return LATE;
        }
        history.popInto(now);
        return history.count;
    }

    // ---- predictions

    public int ahead(int n, int node, int what) {
        if (!now.hasNode(node)) {
            return UNKNOWN;
        }
        if (!isWithin(n, 0, MOST_ROUNDS) || !isWithin(what, 3, 9)) {
            return BAD;
        }
        trial.copyFrom(now);
        trial.passRounds(n, NOBODY);
        return trial.nodeProperty(node, what);
    }

    public int still() {
        trial.copyFrom(now);
        int since = 0;
        for (int n = 1; n <= LATEST_STILL + STILL_ROUNDS; n++) {
            long before = trial.allParents();
            trial.passRound(NOBODY);
            if (trial.allParents() != before) {
                since = n;
            } else if (n - since == STILL_ROUNDS) {
                return since;
            }
        }
        return NONE;
    }

    public int word(int node) {
        if (!now.hasNode(node)) {
            return UNKNOWN;
        }
        if (now.isGateway(node)) {
            return 0;
        }
        trial.copyFrom(now);
        int place = node;
        for (int n = 1; n <= LATEST_WORD; n++) {
            boolean wasAwake = trial.nodes[place].isAwake(trial.rounds);
            trial.passRound(NOBODY);
            int parent = trial.nodes[place].parent;
            if (wasAwake && trial.hasNode(parent)) {
                place = parent;
            }
            if (trial.isGateway(place)) {
                return n;
            }
        }
        return NONE;
    }

    public int even(int gateway) {
        if (!now.isGateway(gateway)) {
            return UNKNOWN;
        }
        int best = 0;
        int bestSpread = MOST_NODES + 1;
        for (int v = 0; v <= 9; v++) {
            trial.copyFrom(now);
            trial.nodes[gateway].offset = v;
            trial.passRounds(FORESIGHT, NOBODY);
            int spread = trial.loadSpread();
            if (spread < bestSpread) {
                best = v;
                bestSpread = spread;
            }
        }
        return best;
    }

    public int judge(int n, long row) {
        if (!isWithin(n, 1, MOST_EVENTS) || row < 0 || withoutEvents(row, n) != 0) {
            return BAD;
        }
        trial.copyFrom(now);
        for (int index = 0; index < n; index++) {
            int event = (int) (withoutEvents(row, n - 1 - index) % EVENT_SPAN);
            if (!happens(event)) {
                return index;
            }
        }
        return NONE;
    }

    // ---- observations

    public int see(int node, int n, int is) {
        if (!now.hasNode(node)) {
            return UNKNOWN;
        }
        if (!isWithin(n, 0, FORESIGHT) || !isWithin(is, 0, 1)) {
            return BAD;
        }
        if (observations.count >= MOST_OBSERVATIONS) {
            return FULL;
        }
        observations.add(node, n, is == 1);
        return observations.count;
    }

    public int unsee() {
        int before = observations.count;
        observations.count = 0;
        return before;
    }

    public int which() {
        int found = 0;
        for (int link = 0; link < now.linkCount; link++) {
            if (!now.links[link].isDown && explainsAll(link)) {
                found |= 1 << link;
            }
        }
        return found;
    }

    // ---- Shapley values, probabilities, random rounds

    public int share(int gateway, boolean upper) {
        if (!now.isGateway(gateway)) {
            return UNKNOWN;
        }
        int others = now.nodesOfKind(GATEWAY) & ~(1 << gateway);
        int otherCount = Integer.bitCount(others);
        long sum = 0;
        for (int set = 0; set < 1 << MOST_NODES; set++) {
            int size = Integer.bitCount(set);
            if ((set & ~others) == 0 && size <= otherCount) {
                // so many orders have exactly this set before the gateway
                long orders = (long) FACTORIAL[size] * FACTORIAL[otherCount - size];
                sum += orders * (worth(set | 1 << gateway) - worth(set));
            }
        }
        return inLowestTerms(sum, FACTORIAL[otherCount + 1], upper);
    }

    public int chance(int x, boolean upper) {
        if (!isWithin(x, 0, 10)) {
            return BAD;
        }
        int up = ((1 << now.linkCount) - 1) & ~now.downLinks();
        int upCount = Integer.bitCount(up);
        long sum = 0;
        for (int lost = 0; lost < 1 << MOST_LINKS; lost++) {
            if ((lost & ~up) == 0) {
                int lostCount = Integer.bitCount(lost);
                long weight = power(x, lostCount) * power(10 - x, upCount - lostCount);
                if (weight > 0 && reachesAllWithout(lost)) {
                    sum += weight;
                }
            }
        }
        return inLowestTerms(sum, power(10, upCount), upper);
    }

    public long seed(long v) {
        long before = random;
        random = v;
        return before;
    }

    public int drawn(int m) {
        if (!isWithin(m, 1, MOST_DRAWS)) {
            return BAD;
        }
        trial.copyFrom(now);
        int missed = 0;
        for (int i = 0; i < m; i++) {
            random = random * DRAW_FACTOR + DRAW_STEP;
            if (trial.linkCount > 0) {
                int v = (int) (random >>> 33);
                if (v / 16 % 2 == 0) {
                    trial.links[v % trial.linkCount].flip();
                }
                trial.passRound(NOBODY);
                missed += trial.nodeCount - Integer.bitCount(trial.reachedNodes());
            }
        }
        return missed;
    }

    // ---- saved states

    public int keep(int slot) {
        if (!isWithin(slot, 0, MOST_SLOTS - 1)) {
            return UNKNOWN;
        }
        saved[slot].copyFrom(now);
        isSaved[slot] = true;
        return now.rounds;
    }

    public int again(int slot) {
        if (!isWithin(slot, 0, MOST_SLOTS - 1)) {
            return UNKNOWN;
        }
        if (!isSaved[slot]) {
            return LATE;
        }
        now.copyFrom(saved[slot]);
        history.clear();
        return now.rounds;
    }

    // ---- what several methods use

    private static boolean isWithin(int v, int low, int high) {
        return v >= low && v <= high;
    }

    /** The error of price() and safe(), or 0. */
    private int offerError(int from, int to) {
        if (!now.hasNode(from) || !now.hasNode(to)) {
            return UNKNOWN;
        }
        return from == to || now.isGateway(to) ? BAD : 0;
    }

    /** The row without its last events. */
    private static long withoutEvents(long row, int events) {
        long rest = row;
        for (int i = 0; i < events; i++) {
            rest /= EVENT_SPAN;
        }
        return rest;
    }

    /** Carries the event out in the trial; false if it is not possible or is a false statement. */
    private boolean happens(int event) {
        int kind = event / 10000;
        int a = event / 1000 % 10;
        int b = event / 100 % 10;
        if (event % 100 != 0) {
            return false;
        }
        switch (kind) {
            case 1:
                trial.passRounds(10 * a + b, NOBODY);
                return 10 * a + b > 0;
            case 2:
                return b == 0 && flipInTrial(a);
            case 3:
                return setOffsetInTrial(a, b);
            case 4:
                return trial.hasNode(a) && b <= 1 && trial.isReached(a) == (b == 1);
            case 5:
                return trial.hasNode(a) && trial.hasNode(b) && trial.nodes[a].parent == b;
            case 6:
                return trial.isGateway(a) && trial.load(a) == b;
            case 7:
                return trial.sequence == 10 * a + b;
            default:
                return false;
        }
    }

    private boolean flipInTrial(int link) {
        if (!trial.hasLink(link)) {
            return false;
        }
        trial.links[link].flip();
        return true;
    }

    private boolean setOffsetInTrial(int gateway, int v) {
        if (!trial.isGateway(gateway)) {
            return false;
        }
        trial.nodes[gateway].offset = v;
        return true;
    }

    /** Whether all observations are true if this link goes down now. */
    private boolean explainsAll(int link) {
        trial.copyFrom(now);
        trial.links[link].isDown = true;
        for (int n = 0; n <= FORESIGHT; n++) {
            if (!observations.agreeAfter(n, trial.reachedNodes())) {
                return false;
            }
            trial.passRound(NOBODY);
        }
        return true;
    }

    /** The worth of a set of gateways, as share() means it. */
    private int worth(int gateways) {
        trial.copyFrom(now);
        trial.passRounds(FORESIGHT, trial.nodesOfKind(GATEWAY) & ~gateways);
        int reached = 0;
        for (int node = 0; node < trial.nodeCount; node++) {
            int end = trial.endOfRoute(node);
            if (end >= 0 && (gateways & 1 << end) != 0) {
                reached++;
            }
        }
        return reached;
    }

    private boolean reachesAllWithout(int lost) {
        trial.copyFrom(now);
        for (int link = 0; link < trial.linkCount; link++) {
            if ((lost & 1 << link) != 0) {
                trial.links[link].isDown = true;
            }
        }
        trial.passRounds(FORESIGHT, NOBODY);
        return Integer.bitCount(trial.reachedNodes()) == trial.nodeCount;
    }

    private static long power(int base, int exponent) {
        long product = 1;
        for (int i = 0; i < exponent; i++) {
            product *= base;
        }
        return product;
    }

    private static int inLowestTerms(long numerator, long denominator, boolean upper) {
        long common = greatestCommonDivisor(Math.abs(numerator), denominator);
        if (common < 1) {
            return 0;
        }
        return (int) ((upper ? numerator : denominator) / common);
    }

    private static long greatestCommonDivisor(long a, long b) {
        long greater = a;
        long smaller = b;
        for (int i = 0; i < MOST_GCD_STEPS && smaller != 0; i++) {
            long rest = greater % smaller;
            greater = smaller;
            smaller = rest;
        }
        return greater;
    }

    // ---- the parts

    /** A node, with its route and, while a round passes, its offer and what it heard. */
    private static final class Node {
        int kind;
        int offset;
        int cycle;
        int phase;
        int parent;
        int cost;
        int sequence;
        int boundSequence;
        int boundCost;

        boolean offers;
        int offerSequence;
        int offerCost;

        boolean heardOffer;
        /** The parent while it still makes a feasible offer, or null. */
        Node goodParent;
        int parentPrice;
        Node best;
        int bestNumber;
        int bestPrice;

        void reset(int newKind) {
            kind = newKind;
            offset = 0;
            cycle = 0;
            phase = 0;
            dropParent();
            boundSequence = 0;
            boundCost = FIRST_BOUND;
        }

        void copyFrom(Node other) {
            kind = other.kind;
            offset = other.offset;
            cycle = other.cycle;
            phase = other.phase;
            parent = other.parent;
            cost = other.cost;
            sequence = other.sequence;
            boundSequence = other.boundSequence;
            boundCost = other.boundCost;
        }

        void dropParent() {
            parent = NONE;
            cost = NONE;
            sequence = NONE;
        }

        boolean isAwake(int roundsBefore) {
            return kind != LEAF || cycle > 0 && roundsBefore % cycle == phase;
        }

        /** Fixes the offer by the state of this moment: in a round all nodes act by the state before it. */
        void fixOffer(int meshSequence, boolean isMuted) {
            if (kind == GATEWAY) {
                offers = !isMuted;
                offerSequence = meshSequence;
                offerCost = offset;
            } else {
                offers = kind == ROUTER && parent != NONE;
                offerSequence = sequence;
                offerCost = cost;
            }
        }

        boolean isFeasible(Node from) {
            return from.offerSequence > boundSequence
                || from.offerSequence == boundSequence && from.offerCost < boundCost;
        }

        void forgetHeard() {
            heardOffer = false;
            goodParent = null;
            best = null;
        }

        void hear(Node from, int number, int airtime) {
            if (!from.offers) {
                return;
            }
            heardOffer = true;
            if (!isFeasible(from)) {
                return;
            }
            int price = from.offerCost + airtime;
            if (number == parent) {
                goodParent = from;
                parentPrice = price;
            }
            if (best == null || price < bestPrice || price == bestPrice && number < bestNumber) {
                best = from;
                bestNumber = number;
                bestPrice = price;
            }
        }

        /** Chooses by what was heard in this round. */
        void choose(int margin) {
            if (goodParent == null) {
                dropParent();
            } else {
                cost = parentPrice;
                sequence = goodParent.offerSequence;
            }
            if (best != null && (parent == NONE || cost > bestPrice + margin)) {
                parent = bestNumber;
                cost = bestPrice;
                sequence = best.offerSequence;
            }
            if (parent != NONE) {
                tightenBound();
            }
        }

        void tightenBound() {
            if (sequence > boundSequence) {
                boundSequence = sequence;
                boundCost = cost;
            } else if (cost < boundCost) {
                boundCost = cost;
            }
        }

        boolean asks() {
            return parent == NONE && heardOffer;
        }
    }

    private static final class Link {
        int first;
        int second;
        int loss;
        int lossBack;
        int slots;
        int airtime;
        boolean isDown;

        void reset(int newFirst, int newSecond, int newLoss, int newLossBack, int newSlots) {
            first = newFirst;
            second = newSecond;
            loss = newLoss;
            lossBack = newLossBack;
            slots = newSlots;
            isDown = false;
            computeAirtime();
        }

        void copyFrom(Link other) {
            first = other.first;
            second = other.second;
            loss = other.loss;
            lossBack = other.lossBack;
            slots = other.slots;
            airtime = other.airtime;
            isDown = other.isDown;
        }

        void flip() {
            isDown = !isDown;
        }

        void setLoss(boolean back, int v) {
            if (back) {
                lossBack = v;
            } else {
                loss = v;
            }
            computeAirtime();
        }

        void computeAirtime() {
            int arriving = (10 - loss) * (10 - lossBack);
            if (arriving > 0) {
                airtime = (100 * slots + arriving - 1) / arriving;
            }
        }

        boolean joins(int a, int b) {
            return first == a && second == b || first == b && second == a;
        }
    }

    /** A mesh in one moment: all that a change can change, and all that stays until another text is read. */
    private static final class Mesh {
        final Node[] nodes;
        final Link[] links;
        int nodeCount;
        int linkCount;
        int margin;
        int sequence;
        int rounds;

        Mesh() {
            nodes = new Node[MOST_NODES];
            for (int node = 0; node < MOST_NODES; node++) {
                nodes[node] = new Node();
            }
            links = new Link[MOST_LINKS];
            for (int link = 0; link < MOST_LINKS; link++) {
                links[link] = new Link();
            }
        }

        void reset(int newMargin) {
            nodeCount = 0;
            linkCount = 0;
            margin = newMargin;
            sequence = 0;
            rounds = 0;
        }

        void copyFrom(Mesh other) {
            nodeCount = other.nodeCount;
            linkCount = other.linkCount;
            margin = other.margin;
            sequence = other.sequence;
            rounds = other.rounds;
            for (int node = 0; node < nodeCount; node++) {
                nodes[node].copyFrom(other.nodes[node]);
            }
            for (int link = 0; link < linkCount; link++) {
                links[link].copyFrom(other.links[link]);
            }
        }

        boolean hasNode(int node) {
            return node >= 0 && node < nodeCount;
        }

        boolean hasLink(int link) {
            return link >= 0 && link < linkCount;
        }

        boolean isGateway(int node) {
            return hasNode(node) && nodes[node].kind == GATEWAY;
        }

        int nodesOfKind(int kind) {
            int found = 0;
            for (int node = 0; node < nodeCount; node++) {
                if (nodes[node].kind == kind) {
                    found |= 1 << node;
                }
            }
            return found;
        }

        int downLinks() {
            int found = 0;
            for (int link = 0; link < linkCount; link++) {
                if (links[link].isDown) {
                    found |= 1 << link;
                }
            }
            return found;
        }

        int linksAt(int node) {
            int count = 0;
            for (int link = 0; link < linkCount; link++) {
                if (links[link].first == node || links[link].second == node) {
                    count++;
                }
            }
            return count;
        }

        /** The link of two nodes, up or down, or NONE. */
        int linkBetween(int a, int b) {
            for (int link = 0; link < linkCount; link++) {
                if (links[link].joins(a, b)) {
                    return link;
                }
            }
            return NONE;
        }

        /** Fixes the offer of a node, and returns the link over which the other node has it, or NONE. */
        int openOffer(int from, int to) {
            nodes[from].fixOffer(sequence, false);
            int link = linkBetween(from, to);
            return link < 0 || links[link].isDown || !nodes[from].offers ? NONE : link;
        }

        void passRounds(int n, int muted) {
            for (int i = 0; i < n; i++) {
                passRound(muted);
            }
        }

        /** Lets one round pass in which the gateways of the set muted make no offers. */
        void passRound(int muted) {
            for (int node = 0; node < nodeCount; node++) {
                nodes[node].fixOffer(sequence, (muted & 1 << node) != 0);
                nodes[node].forgetHeard();
            }
            for (int link = 0; link < linkCount; link++) {
                exchangeOffers(links[link]);
            }
            boolean isAsked = false;
            for (int node = 0; node < nodeCount; node++) {
                if (nodes[node].kind != GATEWAY && nodes[node].isAwake(rounds)) {
                    nodes[node].choose(margin);
                    isAsked |= nodes[node].asks();
                }
            }
            if (isAsked) {
                sequence++;
            }
            rounds++;
        }

        void exchangeOffers(Link link) {
            if (link.isDown || !hasNode(link.first) || !hasNode(link.second)) {
                return;
            }
            Node first = nodes[link.first];
            Node second = nodes[link.second];
            first.hear(second, link.second, link.airtime);
            second.hear(first, link.first, link.airtime);
        }

        /** The gateway to which the parents lead, or NONE. */
        int endOfRoute(int node) {
            int place = node;
            for (int step = 0; step <= MOST_NODES && hasNode(place); step++) {
                if (nodes[place].kind == GATEWAY) {
                    return place;
                }
                place = nodes[place].parent;
            }
            return NONE;
        }

        boolean isReached(int node) {
            return endOfRoute(node) != NONE;
        }

        int reachedNodes() {
            int found = 0;
            for (int node = 0; node < nodeCount; node++) {
                if (isReached(node)) {
                    found |= 1 << node;
                }
            }
            return found;
        }

        int load(int gateway) {
            int count = 0;
            for (int node = 0; node < nodeCount; node++) {
                if (node != gateway && endOfRoute(node) == gateway) {
                    count++;
                }
            }
            return count;
        }

        int loadSpread() {
            int greatest = 0;
            int smallest = MOST_NODES;
            for (int node = 0; node < nodeCount; node++) {
                if (nodes[node].kind == GATEWAY) {
                    int load = load(node);
                    greatest = Math.max(greatest, load);
                    smallest = Math.min(smallest, load);
                }
            }
            return greatest - smallest;
        }

        /** All parents in one number, to be compared with those of another moment. */
        long allParents() {
            long all = 0;
            for (int node = 0; node < nodeCount; node++) {
                all = all * 16 + (nodes[node].parent == NONE ? MOST_NODES : nodes[node].parent);
            }
            return all;
        }

        int nodeProperty(int node, int what) {
            Node it = nodes[node];
            boolean isGateway = it.kind == GATEWAY;
            switch (what) {
                case 0: return it.kind;
                case 1: return it.kind == LEAF ? it.cycle : it.offset;
                case 2: return it.phase;
                case 3: return it.parent;
                case 4: return it.cost;
                case 5: return it.sequence;
                case 6: return isGateway ? NONE : it.boundSequence;
                case 7: return isGateway ? NONE : it.boundCost;
                case 8: return endOfRoute(node);
                case 9: return isGateway ? load(node) : NONE;
                default: return BAD;
            }
        }
    }

    /** The text, and the reader that makes a mesh of it. */
    private static final class Text {
        final int[] letters = new int[MOST_LETTERS];
        int length;
        /** How far the reader came: where it can't go on is the error position. */
        int place;

        void append(int letter) {
            if (length < MOST_LETTERS) {
                letters[length] = letter;
                length++;
            }
        }

        /** Reads the text into a mesh; returns the error position, or NONE and the mesh is whole. */
        int readInto(Mesh mesh) {
            place = 0;
            mesh.reset(0);
            if (letterHere() != 'M') {
                return place;
            }
            place++;
            int margin = takeDigit(0, 9);
            if (margin < 0) {
                return place;
            }
            mesh.reset(margin);
            // each part takes a letter at least, so there are fewer parts than letters
            for (int part = 0; part < MOST_LETTERS && place < length; part++) {
                if (!readPart(mesh)) {
                    return place;
                }
            }
            return NONE;
        }

        boolean readPart(Mesh mesh) {
            switch (letterHere()) {
                case 'g': return readGateway(mesh);
                case 'r': return readRouter(mesh);
                case 'l': return readLeaf(mesh);
                case 'k': return readLink(mesh);
                default: return false;
            }
        }

        boolean readGateway(Mesh mesh) {
            if (mesh.nodeCount >= MOST_NODES) {
                return false;
            }
            place++;
            int offset = takeDigit(0, 9);
            if (offset < 0) {
                return false;
            }
            Node gateway = mesh.nodes[mesh.nodeCount++];
            gateway.reset(GATEWAY);
            gateway.offset = offset;
            return true;
        }

        boolean readRouter(Mesh mesh) {
            if (mesh.nodeCount >= MOST_NODES) {
                return false;
            }
            place++;
            mesh.nodes[mesh.nodeCount++].reset(ROUTER);
            return true;
        }

        boolean readLeaf(Mesh mesh) {
            if (mesh.nodeCount >= MOST_NODES) {
                return false;
            }
            place++;
            int cycle = takeDigit(1, 9);
            if (cycle < 0) {
                return false;
            }
            int phase = takeDigit(0, cycle - 1);
            if (phase < 0) {
                return false;
            }
            Node leaf = mesh.nodes[mesh.nodeCount++];
            leaf.reset(LEAF);
            leaf.cycle = cycle;
            leaf.phase = phase;
            return true;
        }

        boolean readLink(Mesh mesh) {
            int pairs = mesh.nodeCount * (mesh.nodeCount - 1) / 2;
            if (mesh.linkCount >= MOST_LINKS || mesh.linkCount >= pairs) {
                return false;
            }
            place++;
            int a = digitHere(0, mesh.nodeCount - 1);
            if (a < 0 || mesh.linksAt(a) >= mesh.nodeCount - 1) {
                return false;
            }
            place++;
            int b = digitHere(0, mesh.nodeCount - 1);
            if (b < 0 || b == a || mesh.linkBetween(a, b) >= 0) {
                return false;
            }
            place++;
            int loss = takeDigit(0, 9);
            int lossBack = loss < 0 ? -1 : takeDigit(0, 9);
            int slots = lossBack < 0 ? -1 : takeDigit(1, 9);
            if (slots < 0) {
                return false;
            }
            mesh.links[mesh.linkCount++].reset(a, b, loss, lossBack, slots);
            return true;
        }

        int letterHere() {
            return place < length && place < MOST_LETTERS ? letters[place] : -1;
        }

        /** The digit at the place if it is one from low to high, otherwise -1. */
        int digitHere(int low, int high) {
            int digit = letterHere() - '0';
            return digit >= low && digit <= high ? digit : -1;
        }

        int takeDigit(int low, int high) {
            int digit = digitHere(low, high);
            if (digit >= 0) {
                place++;
            }
            return digit;
        }
    }

    /** The states before the latest changes, in a ring whose rows are used again. */
    private static final class History {
        final Mesh[] rows;
        int oldest;
        int count;

        History() {
            rows = new Mesh[MOST_CHANGES];
            for (int row = 0; row < MOST_CHANGES; row++) {
                rows[row] = new Mesh();
            }
        }

        void clear() {
            count = 0;
        }

        void push(Mesh before) {
            if (count == MOST_CHANGES) {
                oldest = (oldest + 1) % MOST_CHANGES;
                count--;
            }
            rows[(oldest + count) % MOST_CHANGES].copyFrom(before);
            count++;
        }

        void popInto(Mesh mesh) {
            if (count > 0) {
                count--;
                mesh.copyFrom(rows[(oldest + count) % MOST_CHANGES]);
            }
        }
    }

    private static final class Observations {
        final int[] node = new int[MOST_OBSERVATIONS];
        final int[] after = new int[MOST_OBSERVATIONS];
        final boolean[] isReached = new boolean[MOST_OBSERVATIONS];
        int count;

        void add(int newNode, int newAfter, boolean newIsReached) {
            if (count < MOST_OBSERVATIONS) {
                node[count] = newNode;
                after[count] = newAfter;
                isReached[count] = newIsReached;
                count++;
            }
        }

        /** Whether those for n rounds fit the reached nodes; a node that another mesh lacks is not in the set. */
        boolean agreeAfter(int n, int reached) {
            for (int i = 0; i < count; i++) {
                if (after[i] == n && isReached[i] != ((reached & 1 << node[i]) != 0)) {
                    return false;
                }
            }
            return true;
        }
    }
}
