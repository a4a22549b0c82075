import java.util.ArrayList;
import java.util.List;

/** Every call with a number that there is not, for a net of so many routers: each on either side. */
final class RefusedCalls {
    interface On {
        int call(LabelRoads net);
    }

    record Refused(String name, boolean noElement, On on) {
        /** Makes the call, for which its exception is due. */
        void tryOn(LabelRoads net) {
            if (noElement) {
                Check.noElement(name, () -> on.call(net));
            } else {
                Check.illegal(name, () -> on.call(net));
            }
        }
    }

    private static final int NONE = LabelRoads.NONE;
    private static final int LEAST = Integer.MIN_VALUE;
    private static final int MOST = Integer.MAX_VALUE;
    private static final int[] WRONG_KINDS = {-1, 4, LEAST, MOST};

    private final List<Refused> all = new ArrayList<>();
    private final int size;

    private RefusedCalls(int size) {
        this.size = size;
    }

    /** For a net of which the latest packet was at so many routers. */
    static List<Refused> of(int size, int hops) {
        RefusedCalls calls = new RefusedCalls(size);
        calls.addWrongRouters();
        calls.addSameRouters();
        calls.addWrongPrefixes();
        calls.addWrongServices();
        calls.addOtherNumbers();
        calls.addHops(hops);
        return calls.all;
    }

    private void addWrongRouters() {
        for (int r : new int[] {-1, size, LEAST, MOST}) {
            add("link(" + r + ", 1, 1)", net -> net.link(r, 1, 1));
            add("link(" + r + ", 1, 0)", net -> net.link(r, 1, 0));
            add("link(0, " + r + ", 1)", net -> net.link(0, r, 1));
            add("link(0, " + r + ", 0)", net -> net.link(0, r, 0));
            add("step(" + r + ", 1)", net -> net.step(r, 1));
            add("step(0, " + r + ")", net -> net.step(0, r));
            add("distance(" + r + ", 0)", net -> net.distance(r, 0));
            add("next(" + r + ", 0)", net -> net.next(r, 0));
            add("label(" + r + ", 0)", net -> net.label(r, 0));
            add("told(" + r + ", 1, 0)", net -> net.told(r, 1, 0));
            add("told(0, " + r + ", 0)", net -> net.told(0, r, 0));
            add("taken(" + r + ")", net -> net.taken(r));
            add("send(" + r + ", 0, NONE, 9)", net -> net.send(r, 0, NONE, 9));
            add("send(" + r + ", 0, 0, 9)", net -> net.send(r, 0, 0, 9));
        }
        // NONE is a router here: the first number below that there is not is -2.
        for (int r : new int[] {-2, size, LEAST, MOST}) {
            add("own(0, " + r + ")", net -> net.own(0, r));
            add("own(3, " + r + ")", net -> net.own(3, r));
            add("serve(0, " + r + ")", net -> net.serve(0, r));
            add("serve(3, " + r + ")", net -> net.serve(3, r));
        }
    }

    private void addSameRouters() {
        for (int router = 0; router < size; router++) {
            int r = router;
            add("link(" + r + ", " + r + ", 1)", net -> net.link(r, r, 1));
            add("link(" + r + ", " + r + ", 0)", net -> net.link(r, r, 0));
            add("step(" + r + ", " + r + ")", net -> net.step(r, r));
            add("told(" + r + ", " + r + ", 0)", net -> net.told(r, r, 0));
        }
    }

    private void addWrongPrefixes() {
        for (int p : WRONG_KINDS) {
            add("own(" + p + ", 0)", net -> net.own(p, 0));
            add("own(" + p + ", NONE)", net -> net.own(p, NONE));
            add("distance(0, " + p + ")", net -> net.distance(0, p));
            add("next(0, " + p + ")", net -> net.next(0, p));
            add("label(0, " + p + ")", net -> net.label(0, p));
            add("told(0, 1, " + p + ")", net -> net.told(0, 1, p));
            add("send(0, " + p + ", NONE, 9)", net -> net.send(0, p, NONE, 9));
        }
    }

    private void addWrongServices() {
        for (int s : WRONG_KINDS) {
            add("serve(" + s + ", 1)", net -> net.serve(s, 1));
            add("serve(" + s + ", NONE)", net -> net.serve(s, NONE));
        }
        for (int s : new int[] {-2, 4, LEAST, MOST}) {
            add("send(0, 0, " + s + ", 9)", net -> net.send(0, 0, s, 9));
        }
    }

    private void addOtherNumbers() {
        for (int cost : new int[] {-1, 16, LEAST, MOST}) {
            add("link(0, 1, " + cost + ")", net -> net.link(0, 1, cost));
            add("link(1, 0, " + cost + ")", net -> net.link(1, 0, cost));
        }
        for (int n : new int[] {-1, 401, LEAST, MOST}) {
            add("run(" + n + ")", net -> net.run(n));
        }
        for (int ttl : new int[] {-1, 0, 256, LEAST, MOST}) {
            add("send(0, 0, NONE, " + ttl + ")", net -> net.send(0, 0, NONE, ttl));
            add("send(1, 3, 0, " + ttl + ")", net -> net.send(1, 3, 0, ttl));
        }
    }

    private void addHops(int hops) {
        for (int i : new int[] {-1, hops, LEAST, MOST}) {
            all.add(new Refused("hop(" + i + ")", true, net -> net.hop(i)));
            all.add(new Refused("entry(" + i + ")", true, net -> net.entry(i)));
        }
    }

    private void add(String name, On on) {
        all.add(new Refused(name, false, on));
    }
}
