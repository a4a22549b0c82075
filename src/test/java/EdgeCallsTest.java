/** "An object is used for at most 512 calls": the last of them is answered as the first one. */
public final class EdgeCallsTest {
    private static final int NONE = LabelRoads.NONE;
    private static final int CALLS = 512;

    public static void main(String[] args) {
        links();
        owners();
        messages();
        packets();
        refusals();
        Check.end();
    }

    private static void links() {
        LabelRoads net = new LabelRoads(6);
        for (int i = 0; i < CALLS; i++) {
            Check.due("link", net.link(i % 5, 5, i / 5 % 15 + 1), i < 5 ? 0 : (i / 5 + 14) % 15 + 1);
        }
    }

    /** Messages are never asked for: after 240 all are lost, and after 8 no label is left. */
    private static void owners() {
        LabelRoads net = new LabelRoads(6);
        Nets.linkAll(net, 6);
        for (int i = 15; i < CALLS - 3; i++) {
            Check.due("own", net.own(i % 4, i % 6), i < 19 ? NONE : (i + 2) % 6);
        }
        Check.due("waiting()", net.waiting(), 240);
        Check.due("taken(0)", net.taken(0), 8);
        Check.due("taken(5)", net.taken(5), 8);
    }

    private static void messages() {
        LabelRoads net = Nets.line(2);
        for (int i = 1; i + 5 < CALLS; i += 5) {
            Check.due("own", net.own(0, 0), NONE);
            Check.due("run(400), two MAPs", net.run(400), 2);
            Check.due("own", net.own(0, NONE), 0);
            Check.due("run(400), two WITHDRAWs and RELEASEs", net.run(400), 4);
            Check.due("taken(0)", net.taken(0), 0);
        }
        Check.due("lost()", net.lost(), 0);
    }

    private static void packets() {
        LabelRoads net = Nets.line(6);
        net.own(0, 5);
        for (int i = 6; i < CALLS - 1; i++) {
            Check.due("send", net.send(0, 0, NONE, 255), LabelRoads.DELIVERED);
        }
        Check.due("hops(), of the latest alone", net.hops(), 6);
    }

    private static void refusals() {
        LabelRoads net = new LabelRoads(2);
        for (int i = 0; i < CALLS - 1; i++) {
            int wrong = i % 2 == 0 ? -2 - i : 4 + i;
            Check.illegal("own(0, " + wrong + ")", () -> net.own(0, wrong));
        }
        Check.due("own(0, 1)", net.own(0, 1), NONE);
    }
}
