/**
 * "Methods throw what their comments name; a call that throws changes nothing." Every refused call,
 * on nets with nothing there, with all things under way, with all labels taken and with all places
 * of messages taken.
 */
public final class EdgeRefusedCallsTest {
    private static final int NONE = LabelRoads.NONE;

    public static void main(String[] args) {
        for (int size = 2; size <= 4; size++) {
            refuses("a new net", size, 0, net -> { });
        }
        refuses("a busy net", 3, 2, EdgeRefusedCallsTest::makeBusy);
        refuses("no labels left", 3, 1, EdgeRefusedCallsTest::takeAllLabels);
        refuses("240 messages", 5, 1, EdgeRefusedCallsTest::crowd);
        refuses("messages lost", 5, 2, EdgeRefusedCallsTest::crowdMore);
        Check.end();
    }

    private static void refuses(String name, int size, int hops, Twins.Calls made) {
        LabelRoads net = new LabelRoads(size);
        made.on(net);
        Check.due("hops() of " + name, net.hops(), hops);
        for (RefusedCalls.Refused refused : RefusedCalls.of(size, hops)) {
            Twins.staySame(refused.name() + " on " + name, size, made, refused::tryOn);
        }
    }

    /** MAP, WITHDRAW and RELEASE are on their way, a service is served, a packet was sent. */
    private static void makeBusy(LabelRoads net) {
        Nets.linkAll(net, 3);
        net.own(0, 0);
        net.own(1, 2);
        net.serve(0, 2);
        net.serve(3, 0);
        net.run(400);
        net.own(0, NONE);
        net.own(3, 1);
        net.step(0, 2);
        Check.due("send", net.send(0, 1, 0, 20), LabelRoads.DELIVERED);
    }

    private static void takeAllLabels(LabelRoads net) {
        Nets.linkAll(net, 3);
        Nets.useUpLabels(net, 0, 0, 8);
        net.own(2, 0);
        Check.due("taken(0)", net.taken(0), 8);
        Check.due("label(0, 2)", net.label(0, 2), 0);
        Check.due("send", net.send(0, 2, NONE, 1), LabelRoads.DELIVERED);
    }

    private static void crowd(LabelRoads net) {
        Nets.crowdFive(net);
        net.serve(2, 3);
        Check.due("send", net.send(0, 3, NONE, 255), LabelRoads.NO_ROUTE);
    }

    private static void crowdMore(LabelRoads net) {
        Nets.crowdFive(net);
        net.own(0, 0);
        Check.due("lost()", net.lost(), 4);
        Check.due("send", net.send(1, 0, NONE, 2), LabelRoads.DELIVERED);
    }
}
