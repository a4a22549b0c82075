/** "THE NET has 2 .. 6 ROUTERS 0, 1, ..": the first and the last one are there, no other one is. */
public final class EdgeRoutersTest {
    private static final int NONE = LabelRoads.NONE;

    public static void main(String[] args) {
        for (int n : new int[] {Integer.MIN_VALUE, -6, -1, 0, 1, 2}) {
            hasRouters(n, 2);
        }
        for (int n = 3; n <= 5; n++) {
            hasRouters(n, n);
        }
        for (int n : new int[] {6, 7, 8, 600, Integer.MAX_VALUE}) {
            hasRouters(n, 6);
        }
        Check.end();
    }

    private static void hasRouters(int n, int size) {
        LabelRoads net = new LabelRoads(n);
        for (RefusedCalls.Refused refused : RefusedCalls.of(size, 0)) {
            refused.tryOn(net);
        }
        endsWork(new LabelRoads(n), 0, size - 1);
        endsWork(new LabelRoads(n), size - 1, 0);
        noneWorks(new LabelRoads(n), size);
    }

    /** One end owns and serves, the other one is told and sends. */
    private static void endsWork(LabelRoads net, int owner, int other) {
        Check.due("link", net.link(owner, other, 7), 0);
        Check.due("own", net.own(0, owner), NONE);
        Check.due("own again", net.own(0, owner), owner);
        Check.due("serve", net.serve(0, owner), NONE);
        Check.due("serve again", net.serve(0, owner), owner);
        Check.due("step back", net.step(other, owner), 0);
        Check.due("step", net.step(owner, other), 1);
        Check.due("told", net.told(other, owner, 0), 16);
        Check.due("told back", net.told(owner, other, 0), 0);
        Check.due("distance", net.distance(other, 0), 7);
        Check.due("distance of the owner", net.distance(owner, 0), 0);
        Check.due("next", net.next(other, 0), owner);
        Check.due("next of the owner", net.next(owner, 0), NONE);
        Check.due("label", net.label(other, 0), 16);
        Check.due("taken", net.taken(other), 1);
        Check.due("taken of the owner", net.taken(owner), 1);
        Check.due("send", net.send(other, 0, 0, 2), LabelRoads.DELIVERED);
        Check.due("hop(0)", net.hop(0), other);
        Check.due("hop(1)", net.hop(1), owner);
        Check.due("step back", net.step(other, owner), 1);
        Check.due("told back", net.told(owner, other, 0), 16);
    }

    /** NONE is a router for own and serve alone, as is the least number of RefusedCalls there. */
    private static void noneWorks(LabelRoads net, int size) {
        Check.due("own(3, NONE)", net.own(3, NONE), NONE);
        Check.due("own(3, last)", net.own(3, size - 1), NONE);
        Check.due("own(3, NONE)", net.own(3, NONE), size - 1);
        Check.due("own(3, 0)", net.own(3, 0), NONE);
        Check.due("own(3, NONE)", net.own(3, NONE), 0);
        Check.due("serve(3, NONE)", net.serve(3, NONE), NONE);
        Check.due("serve(3, last)", net.serve(3, size - 1), NONE);
        Check.due("serve(3, NONE)", net.serve(3, NONE), size - 1);
        Check.due("serve(3, 0)", net.serve(3, 0), NONE);
        Check.due("serve(3, NONE)", net.serve(3, NONE), 0);
    }
}
