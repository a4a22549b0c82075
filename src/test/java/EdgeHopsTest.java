/**
 * Promise 15: "0 when none was sent"; promises 16 and 17: "the i-th router (from 0)",
 * "NoSuchElementException: there is none", "0 for none".
 */
public final class EdgeHopsTest {
    private static final int NONE = LabelRoads.NONE;

    public static void main(String[] args) {
        noneWasSent();
        fromOneToSixRouters();
        shorterAfterLonger();
        refusedSendKeepsTheLatest();
        otherCallsKeepTheLatest();
        Check.end();
    }

    private static void isAt(LabelRoads net, int... routers) {
        Check.due("hops()", net.hops(), routers.length);
        for (int i = 0; i < routers.length; i++) {
            Check.due("hop(" + i + ")", net.hop(i), routers[i]);
        }
        int[] none = {-1, routers.length, routers.length + 1, 254, 255, 256,
            Integer.MIN_VALUE, Integer.MAX_VALUE};
        for (int i : none) {
            Check.noElement("hop(" + i + ")", () -> net.hop(i));
            Check.noElement("entry(" + i + ")", () -> net.entry(i));
        }
    }

    private static void noneWasSent() {
        for (int size = 2; size <= 6; size++) {
            isAt(new LabelRoads(size));
        }
        LabelRoads net = Nets.line(6);
        net.own(0, 5);
        net.serve(0, 5);
        net.run(400);
        isAt(net);
    }

    private static void fromOneToSixRouters() {
        LabelRoads net = Nets.line(6);
        net.own(0, 0);
        int[] way = {5, 4, 3, 2, 1, 0};
        for (int begin = 5; begin >= 0; begin--) {
            net.send(begin, 0, NONE, 255);
            isAt(net, java.util.Arrays.copyOfRange(way, 5 - begin, 6));
            for (int i = 0; i <= begin; i++) {
                Check.due("entry(" + i + "), none", net.entry(i), 0);
            }
        }
    }

    private static void shorterAfterLonger() {
        LabelRoads net = Nets.line(3);
        net.own(0, 2);
        Nets.rest(net);
        net.send(0, 0, 3, 9);
        isAt(net, 0, 1, 2);
        Check.due("entry(2)", net.entry(2), 4096 * 16 + 7);
        net.send(1, 0, NONE, 1);
        isAt(net, 1);
        Check.due("entry(0), none", net.entry(0), 0);
        net.send(1, 1, 0, 255);
        isAt(net, 1);
        Check.due("entry(0)", net.entry(0), 4096 * 32 + 256 + 255);
    }

    private static void refusedSendKeepsTheLatest() {
        LabelRoads net = Nets.line(3);
        net.own(0, 2);
        Check.illegal("send(3, ..), the first one", () -> net.send(3, 0, NONE, 9));
        isAt(net);
        net.send(0, 0, NONE, 9);
        for (RefusedCalls.Refused refused : RefusedCalls.of(3, 3)) {
            refused.tryOn(net);
        }
        isAt(net, 0, 1, 2);
    }

    private static void otherCallsKeepTheLatest() {
        LabelRoads net = Nets.line(3);
        net.own(0, 2);
        Nets.rest(net);
        net.serve(0, 2);
        net.send(0, 0, 0, 9);
        net.own(0, NONE);
        net.link(0, 1, 0);
        net.serve(0, NONE);
        net.run(400);
        net.step(1, 2);
        isAt(net, 0, 1, 2);
        Check.due("entry(0)", net.entry(0), 4096 * 32 + 256 + 9);
        Check.due("entry(1)", net.entry(1), 4096 * 16 + 8);
        Check.due("entry(2)", net.entry(2), 4096 * 16 + 7);
    }
}
