import java.util.Arrays;

/**
 * A net of routers that find the least ways to prefixes, tell one another labels for them by
 * messages, and forward packets by these labels. The document's promises are kept here; all rows
 * are made once, in the constructors, so that no call makes an object (but for its exception).
 */
public final class LabelRoads {
    public static final int NONE = -1;
    public static final int DELIVERED = 0;
    public static final int NO_ROUTE = 1;
    public static final int EXPIRED = 2;
    public static final int UNKNOWN = 3;
    public static final int NO_LABEL = 4;

    private static final int LEAST_ROUTERS = 2;
    private static final int MOST_ROUTERS = 6;
    private static final int PREFIXES = 4;
    private static final int SERVICES = 4;
    private static final int MOST_COST = 15;
    private static final int MOST_TTL = 255;
    private static final int MOST_AT_ONCE = 400;
    private static final int MOST_MESSAGES = 240;

    private static final int FIRST_LABEL = 16;
    private static final int LABELS = 8;
    private static final int FIRST_SERVICE_LABEL = 32;
    private static final int UNLABELLED = 0;
    private static final int LABEL_UNIT = 4096;
    private static final int BOTTOM_MARK = 256;

    private static final int NO_MESSAGE = 0;
    private static final int MAP = 1;
    private static final int WITHDRAW = 2;
    private static final int RELEASE = 3;

    /** No fate yet: the packet has come to another router. */
    private static final int MOVED = -1;

    private final int size;
    private final Ways ways;
    private final Mail mail;
    private final Router[] routers;
    private final int[] places;
    private final Packet packet;

    public LabelRoads(int n) {
        size = Math.max(LEAST_ROUTERS, Math.min(MOST_ROUTERS, n));
        ways = new Ways(size);
        mail = new Mail();
        routers = new Router[size];
        for (int router = 0; router < size; router++) {
            routers[router] = new Router();
        }
        places = new int[SERVICES];
        Arrays.fill(places, NONE);
        packet = new Packet();
    }

    public int link(int a, int b, int cost) throws IllegalArgumentException {
        checkTwoRouters(a, b);
        checkRange(cost, 0, MOST_COST);
        int before = ways.costOf(a, b);
        if (cost == before) {
            return before;
        }
        ways.setCost(a, b, cost);
        if (cost == 0) {
            cutOff(a, b);
        } else if (before == 0) {
            tellLabels(Math.min(a, b), Math.max(a, b));
            tellLabels(Math.max(a, b), Math.min(a, b));
        }
        settleAll();
        return before;
    }

    public int own(int prefix, int router) throws IllegalArgumentException {
        checkPrefix(prefix);
        checkRouterOrNone(router);
        int before = ways.ownerOf(prefix);
        if (router != before) {
            ways.setOwner(prefix, router);
            settleAll();
        }
        return before;
    }

    public int serve(int service, int router) throws IllegalArgumentException {
        checkRange(service, 0, SERVICES - 1);
        checkRouterOrNone(router);
        int before = places[service];
        places[service] = router;
        return before;
    }

    public int step(int from, int to) throws IllegalArgumentException {
        checkTwoRouters(from, to);
        int index = mail.firstBetween(from, to);
        if (index == NONE) {
            return NO_MESSAGE;
        }
        int message = mail.take(index);
        receive(message);
        return Mail.kindOf(message);
    }

    public int run(int n) throws IllegalArgumentException {
        checkRange(n, 0, MOST_AT_ONCE);
        int come = 0;
        while (come < n && mail.size() > 0) {
            receive(mail.take(0));
            come++;
        }
        return come;
    }

    public int waiting() {
        return mail.size();
    }

    public int lost() {
        return mail.lostCount();
    }

    public int distance(int router, int prefix) throws IllegalArgumentException {
        checkRouter(router);
        checkPrefix(prefix);
        return ways.distanceOf(router, prefix);
    }

    public int next(int router, int prefix) throws IllegalArgumentException {
        checkRouter(router);
        checkPrefix(prefix);
        return ways.nextOf(router, prefix);
    }

    public int label(int router, int prefix) throws IllegalArgumentException {
        checkRouter(router);
        checkPrefix(prefix);
        return routers[router].labelOf(prefix);
    }

    public int told(int router, int other, int prefix) throws IllegalArgumentException {
        checkTwoRouters(router, other);
        checkPrefix(prefix);
        return routers[router].toldBy(other, prefix);
    }

    public int taken(int router) throws IllegalArgumentException {
        checkRouter(router);
        return routers[router].takenCount();
    }

    public int send(int router, int prefix, int service, int ttl) throws IllegalArgumentException {
        checkRouter(router);
        checkPrefix(prefix);
        checkRange(service, NONE, SERVICES - 1);
        checkRange(ttl, 1, MOST_TTL);
        packet.begin(router, prefix, service, ttl);
        // Each pass but the last one takes 1 from the TTL, so there are never more passes than that.
        for (int pass = 0; pass < ttl; pass++) {
            int fate = passRouter();
            if (fate != MOVED) {
                return fate;
            }
        }
        return EXPIRED;
    }

    public int hops() {
        return packet.placeCount();
    }

    public int hop(int i) throws java.util.NoSuchElementException {
        checkHop(i);
        return packet.placeAt(i);
    }

    public int entry(int i) throws java.util.NoSuchElementException {
        checkHop(i);
        return packet.entryAt(i);
    }

    private static void checkRange(int number, int least, int most) {
        if (number < least || number > most) {
            throw new IllegalArgumentException("a number that there is not");
        }
    }

    private void checkRouter(int router) {
        checkRange(router, 0, size - 1);
    }

    private void checkRouterOrNone(int router) {
        checkRange(router, NONE, size - 1);
    }

    private void checkTwoRouters(int a, int b) {
        checkRouter(a);
        checkRouter(b);
        if (a == b) {
            throw new IllegalArgumentException("twice the same router");
        }
    }

    private static void checkPrefix(int prefix) {
        checkRange(prefix, 0, PREFIXES - 1);
    }

    private void checkHop(int i) {
        if (i < 0 || i >= packet.placeCount()) {
            throw new java.util.NoSuchElementException("the packet was at no such router");
        }
    }

    private void cutOff(int a, int b) {
        mail.dropBetween(a, b);
        routers[a].forget(b);
        routers[b].forget(a);
    }

    private void tellLabels(int from, int to) {
        for (int prefix = 0; prefix < PREFIXES; prefix++) {
            int label = routers[from].labelOf(prefix);
            if (label != UNLABELLED) {
                mail.post(MAP, from, to, prefix, label);
            }
        }
    }

    private void settleAll() {
        for (int router = 0; router < size; router++) {
            settlePrefixes(router);
        }
    }

    private void settlePrefixes(int router) {
        for (int prefix = 0; prefix < PREFIXES; prefix++) {
            settle(router, prefix);
        }
    }

    private void settle(int router, int prefix) {
        boolean ready = isReady(router, prefix);
        boolean labelled = routers[router].labelOf(prefix) != UNLABELLED;
        if (ready && !labelled) {
            giveLabel(router, prefix);
        } else if (!ready && labelled) {
            withdrawLabel(router, prefix);
        }
    }

    private boolean isReady(int router, int prefix) {
        if (ways.owns(router, prefix)) {
            return true;
        }
        int next = ways.nextOf(router, prefix);
        return next != NONE && routers[router].toldBy(next, prefix) != UNLABELLED;
    }

    private void giveLabel(int router, int prefix) {
        int label = routers[router].leastFree();
        if (label == UNLABELLED) {
            return;
        }
        routers[router].setLabel(prefix, label);
        for (int other = 0; other < size; other++) {
            if (ways.areLinked(router, other)) {
                mail.post(MAP, router, other, prefix, label);
            }
        }
    }

    private void withdrawLabel(int router, int prefix) {
        int label = routers[router].labelOf(prefix);
        for (int other = 0; other < size; other++) {
            if (ways.areLinked(router, other)) {
                mail.post(WITHDRAW, router, other, prefix, label);
                // Also when the message is lost: its sender can't know that no RELEASE will answer.
                routers[router].awaitRelease(label, other);
            }
        }
        routers[router].setLabel(prefix, UNLABELLED);
    }

    private void receive(int message) {
        int from = Mail.fromOf(message);
        int to = Mail.toOf(message);
        int prefix = Mail.prefixOf(message);
        int label = Mail.labelOf(message);
        switch (Mail.kindOf(message)) {
            case MAP:
                routers[to].hear(from, prefix, label);
                settle(to, prefix);
                break;
            case WITHDRAW:
                routers[to].unhear(from, prefix, label);
                mail.post(RELEASE, to, from, prefix, label);
                settle(to, prefix);
                break;
            default:
                routers[to].endRelease(label, from);
                settlePrefixes(to);
                break;
        }
    }

    private int passRouter() {
        int router = packet.place();
        if (packet.topLabel() == UNLABELLED) {
            return passUnlabelled(router);
        }
        int prefix = routers[router].prefixOf(packet.topLabel());
        if (prefix == NONE) {
            return UNKNOWN;
        }
        if (!ways.owns(router, prefix)) {
            return goOn(router, prefix, true);
        }
        packet.pop();
        return packet.isForService() ? tryService(router) : passUnlabelled(router);
    }

    /** A packet without entries, or one for a service at the router at which it begins. */
    private int passUnlabelled(int router) {
        boolean forService = packet.isForService();
        if (ways.owns(router, packet.targetPrefix())) {
            return forService ? tryService(router) : DELIVERED;
        }
        return goOn(router, packet.targetPrefix(), forService);
    }

    private int tryService(int router) {
        return places[packet.targetService()] == router ? DELIVERED : UNKNOWN;
    }

    private int goOn(int router, int prefix, boolean needsLabel) {
        int next = ways.nextOf(router, prefix);
        if (next == NONE) {
            return NO_ROUTE;
        }
        int label = routers[router].toldBy(next, prefix);
        if (needsLabel && label == UNLABELLED) {
            return NO_LABEL;
        }
        if (packet.isAtLastHop()) {
            return EXPIRED;
        }
        packet.moveTo(next, label);
        return MOVED;
    }

    /** The links and owners, and the distances that follow from them. */
    private static final class Ways {
        /** Above every sum of costs on a way. */
        private static final int UNREACHED = 1000;

        private final int size;
        private final int[][] costs;
        private final int[] owners;
        private final int[][] distances;

        Ways(int size) {
            this.size = size;
            costs = new int[size][size];
            owners = new int[PREFIXES];
            Arrays.fill(owners, NONE);
            distances = new int[PREFIXES][size];
            for (int prefix = 0; prefix < PREFIXES; prefix++) {
                Arrays.fill(distances[prefix], UNREACHED);
            }
        }

        int costOf(int a, int b) {
            return costs[a][b];
        }

        boolean areLinked(int a, int b) {
            return costs[a][b] != 0;
        }

        int ownerOf(int prefix) {
            return owners[prefix];
        }

        boolean owns(int router, int prefix) {
            return owners[prefix] == router;
        }

        void setCost(int a, int b, int cost) {
            costs[a][b] = cost;
            costs[b][a] = cost;
            for (int prefix = 0; prefix < PREFIXES; prefix++) {
                measure(prefix);
            }
        }

        void setOwner(int prefix, int router) {
            owners[prefix] = router;
            measure(prefix);
        }

        int distanceOf(int router, int prefix) {
            int distance = distances[prefix][router];
            return distance == UNREACHED ? NONE : distance;
        }

        /** For an owner, and without a way, no sum fits: costs are above 0, ways below UNREACHED. */
        int nextOf(int router, int prefix) {
            int[] row = distances[prefix];
            for (int other = 0; other < size; other++) {
                if (areLinked(router, other) && costs[router][other] + row[other] == row[router]) {
                    return other;
                }
            }
            return NONE;
        }

        private void measure(int prefix) {
            int[] row = distances[prefix];
            Arrays.fill(row, UNREACHED);
            if (owners[prefix] == NONE) {
                return;
            }
            row[owners[prefix]] = 0;
            // A least way has fewer links than there are routers; each round makes it one link longer.
            for (int round = 1; round < size; round++) {
                lengthenWays(row);
            }
        }

        private void lengthenWays(int[] row) {
            for (int router = 0; router < size; router++) {
                for (int other = 0; other < size; other++) {
                    if (areLinked(router, other)) {
                        row[router] = Math.min(row[router], row[other] + costs[router][other]);
                    }
                }
            }
        }
    }

    /** The messages on their way, in the order in which they were sent, each packed into an int. */
    private static final class Mail {
        private final int[] messages = new int[MOST_MESSAGES];
        private int count;
        private int lostOnes;

        static int kindOf(int message) {
            return message >> 16;
        }

        static int fromOf(int message) {
            return (message >> 12) & 15;
        }

        static int toOf(int message) {
            return (message >> 8) & 15;
        }

        static int prefixOf(int message) {
            return (message >> 5) & 7;
        }

        static int labelOf(int message) {
            return message & 31;
        }

        int size() {
            return count;
        }

        int lostCount() {
            return lostOnes;
        }

        void post(int kind, int from, int to, int prefix, int label) {
            if (count == MOST_MESSAGES) {
                lostOnes++;
                return;
            }
            messages[count] = kind << 16 | from << 12 | to << 8 | prefix << 5 | label;
            count++;
        }

        int firstBetween(int from, int to) {
            for (int i = 0; i < count; i++) {
                if (fromOf(messages[i]) == from && toOf(messages[i]) == to) {
                    return i;
                }
            }
            return NONE;
        }

        int take(int index) {
            int message = messages[index];
            count--;
            System.arraycopy(messages, index + 1, messages, index, count - index);
            return message;
        }

        void dropBetween(int a, int b) {
            int kept = 0;
            for (int i = 0; i < count; i++) {
                int from = fromOf(messages[i]);
                int to = toOf(messages[i]);
                boolean onLink = from == a && to == b || from == b && to == a;
                if (!onLink) {
                    messages[kept] = messages[i];
                    kept++;
                }
            }
            count = kept;
        }
    }

    /** What one router holds: its own labels, what others told it, and which RELEASEs are to come. */
    private static final class Router {
        private final int[] labels = new int[PREFIXES];
        private final int[][] toldLabels = new int[MOST_ROUTERS][PREFIXES];
        /** For each label a bit for each router from which a RELEASE is to come. */
        private final int[] awaited = new int[LABELS];

        int labelOf(int prefix) {
            return labels[prefix];
        }

        void setLabel(int prefix, int label) {
            labels[prefix] = label;
        }

        int prefixOf(int label) {
            for (int prefix = 0; prefix < PREFIXES; prefix++) {
                if (labels[prefix] == label) {
                    return prefix;
                }
            }
            return NONE;
        }

        int leastFree() {
            int bits = takenBits();
            for (int i = 0; i < LABELS; i++) {
                if ((bits >> i & 1) == 0) {
                    return FIRST_LABEL + i;
                }
            }
            return UNLABELLED;
        }

        int takenCount() {
            return Integer.bitCount(takenBits());
        }

        private int takenBits() {
            int bits = 0;
            for (int i = 0; i < LABELS; i++) {
                if (awaited[i] != 0) {
                    bits |= 1 << i;
                }
            }
            for (int prefix = 0; prefix < PREFIXES; prefix++) {
                if (labels[prefix] != UNLABELLED) {
                    bits |= 1 << labels[prefix] - FIRST_LABEL;
                }
            }
            return bits;
        }

        void awaitRelease(int label, int other) {
            awaited[label - FIRST_LABEL] |= 1 << other;
        }

        void endRelease(int label, int other) {
            awaited[label - FIRST_LABEL] &= ~(1 << other);
        }

        int toldBy(int other, int prefix) {
            return toldLabels[other][prefix];
        }

        void hear(int other, int prefix, int label) {
            toldLabels[other][prefix] = label;
        }

        /** When a message was lost, the other router's latest label can be another one: that stays. */
        void unhear(int other, int prefix, int label) {
            if (toldLabels[other][prefix] == label) {
                toldLabels[other][prefix] = UNLABELLED;
            }
        }

        void forget(int other) {
            Arrays.fill(toldLabels[other], UNLABELLED);
            for (int i = 0; i < LABELS; i++) {
                endRelease(FIRST_LABEL + i, other);
            }
        }
    }

    /** The latest packet and its trail; made once and used again for each one that is sent. */
    private static final class Packet {
        // A packet is at one router for each number that its TTL can have.
        private final int[] trail = new int[MOST_TTL];
        private final int[] entries = new int[MOST_TTL];
        private int count;
        private int prefix;
        private int service;
        private int ttl;
        private int top;

        void begin(int router, int forPrefix, int forService, int firstTtl) {
            prefix = forPrefix;
            service = forService;
            ttl = firstTtl;
            top = UNLABELLED;
            count = 0;
            note(router, isForService() ? entryOf(FIRST_SERVICE_LABEL + service, true) : 0);
        }

        void moveTo(int router, int label) {
            ttl--;
            top = label;
            note(router, label == UNLABELLED ? 0 : entryOf(label, !isForService()));
        }

        void pop() {
            top = UNLABELLED;
        }

        boolean isForService() {
            return service != NONE;
        }

        boolean isAtLastHop() {
            return ttl <= 1;
        }

        int targetPrefix() {
            return prefix;
        }

        int targetService() {
            return service;
        }

        int topLabel() {
            return top;
        }

        int place() {
            return trail[count - 1];
        }

        int placeCount() {
            return count;
        }

        int placeAt(int i) {
            return trail[i];
        }

        int entryAt(int i) {
            return entries[i];
        }

        private int entryOf(int label, boolean bottom) {
            return LABEL_UNIT * label + (bottom ? BOTTOM_MARK : 0) + ttl;
        }

        private void note(int router, int entry) {
            trail[count] = router;
            entries[count] = entry;
            count++;
        }
    }
}
