/** Promise 2: link. */
public final class Promise02LinkTest {
    public static void main(String[] args) {
        tellsWhatItWas();
        mapsGoFromTheLowerRouterFirst();
        mapsGoByRisingPrefixes();
        mapsGoBeforeWhatSettlingSends();
        sameCostDoesNothing();
        costAloneSettlesAndKeepsMessages();
        goneLinkTakesAllWithIt();
        otherLinksKeepTheirs();
        goneLinkFreesLabels();
        settlesByRoutersThenByPrefixes();
        wrongNumbers();
        Check.end();
    }

    private static void tellsWhatItWas() {
        LabelRoads net = new LabelRoads(6);
        Check.due("link(0, 5, 15)", net.link(0, 5, 15), 0);
        Check.due("link(5, 0, 1)", net.link(5, 0, 1), 15);
        Check.due("link(0, 5, 1)", net.link(0, 5, 1), 1);
        Check.due("link(0, 5, 0)", net.link(0, 5, 0), 1);
        Check.due("link(5, 0, 0)", net.link(5, 0, 0), 0);
        Check.due("link(0, 4, 0)", net.link(0, 4, 0), 0);
    }

    private static void mapsGoFromTheLowerRouterFirst() {
        for (int turned = 0; turned < 2; turned++) {
            LabelRoads net = new LabelRoads(2);
            net.own(0, 1);
            net.own(1, 0);
            Check.due("link", net.link(turned, 1 - turned, 3), 0);
            Check.due("waiting()", net.waiting(), 2);
            net.run(1);
            Check.due("told(1, 0, 1)", net.told(1, 0, 1), 16);
            Check.due("told(0, 1, 0)", net.told(0, 1, 0), 0);
            net.run(2);
            Check.due("told(0, 1, 0)", net.told(0, 1, 0), 16);
        }
    }

    private static void mapsGoByRisingPrefixes() {
        LabelRoads net = new LabelRoads(2);
        net.own(3, 0);
        net.own(1, 0);
        net.own(2, 0);
        net.link(0, 1, 1);
        Check.due("waiting()", net.waiting(), 3);
        net.step(0, 1);
        Check.due("told(1, 0, 1)", net.told(1, 0, 1), 17);
        Check.due("told(1, 0, 2)", net.told(1, 0, 2), 0);
        net.step(0, 1);
        Check.due("told(1, 0, 2)", net.told(1, 0, 2), 18);
        Check.due("told(1, 0, 3)", net.told(1, 0, 3), 0);
        net.step(0, 1);
        Check.due("told(1, 0, 3)", net.told(1, 0, 3), 16);
        Check.due("told(1, 0, 0)", net.told(1, 0, 0), 0);
    }

    /** The new link makes 2 the next router of 1, which then withdraws the label that it just told. */
    private static void mapsGoBeforeWhatSettlingSends() {
        LabelRoads net = new LabelRoads(3);
        net.link(0, 1, 15);
        net.link(0, 2, 1);
        net.own(0, 0);
        Nets.rest(net);
        net.link(2, 1, 1);
        Check.due("next(1, 0)", net.next(1, 0), 2);
        Check.due("label(1, 0)", net.label(1, 0), 0);
        Check.due("waiting(), two MAPs and two WITHDRAWs", net.waiting(), 4);
        net.run(1);
        Check.due("told(2, 1, 0)", net.told(2, 1, 0), 16);
        net.run(1);
        Check.due("told(1, 2, 0)", net.told(1, 2, 0), 16);
        Check.due("told(0, 1, 0)", net.told(0, 1, 0), 16);
        net.run(1);
        Check.due("told(0, 1, 0)", net.told(0, 1, 0), 0);
        Check.due("step(1, 2), WITHDRAW", net.step(1, 2), 2);
        Check.due("told(2, 1, 0)", net.told(2, 1, 0), 0);
    }

    private static void sameCostDoesNothing() {
        LabelRoads net = Nets.line(2);
        net.own(0, 0);
        Check.due("waiting()", net.waiting(), 1);
        Check.due("link(0, 1, 1)", net.link(0, 1, 1), 1);
        Check.due("waiting() after the same cost", net.waiting(), 1);
        Check.due("run(9)", net.run(9), 2);
    }

    /** Router 0 goes from 1 to 2 as next one, which has told nothing: its label is withdrawn. */
    private static void costAloneSettlesAndKeepsMessages() {
        LabelRoads net = new LabelRoads(4);
        net.link(0, 1, 1);
        net.link(1, 3, 1);
        net.link(0, 2, 2);
        net.link(2, 3, 2);
        net.own(0, 3);
        net.step(3, 1);
        net.step(1, 0);
        Check.due("label(0, 0)", net.label(0, 0), 16);
        int waiting = net.waiting();
        Check.due("link(0, 1, 9)", net.link(0, 1, 9), 1);
        Check.due("next(0, 0)", net.next(0, 0), 2);
        Check.due("label(0, 0)", net.label(0, 0), 0);
        Check.due("waiting()", net.waiting(), waiting + 2);
        Check.due("told(0, 1, 0)", net.told(0, 1, 0), 16);
        Check.due("step(0, 1)", net.step(0, 1), 1);
        Check.due("step(0, 1)", net.step(0, 1), 2);
    }

    private static void goneLinkTakesAllWithIt() {
        LabelRoads net = Nets.line(2);
        net.own(0, 0);
        net.own(1, 1);
        Nets.rest(net);
        Check.due("told(0, 1, 1)", net.told(0, 1, 1), 16);
        Check.due("told(1, 0, 0)", net.told(1, 0, 0), 16);
        net.own(2, 0);
        net.own(3, 1);
        Check.due("waiting()", net.waiting(), 2);
        Check.due("link(1, 0, 0)", net.link(1, 0, 0), 1);
        Check.due("waiting()", net.waiting(), 0);
        Check.due("lost()", net.lost(), 0);
        for (int prefix = 0; prefix < 4; prefix++) {
            Check.due("told(0, 1, ..)", net.told(0, 1, prefix), 0);
            Check.due("told(1, 0, ..)", net.told(1, 0, prefix), 0);
            Check.due("label(0, ..)", net.label(0, prefix) != 0 ? 1 : 0, prefix % 2 == 0 ? 1 : 0);
            Check.due("label(1, ..)", net.label(1, prefix) != 0 ? 1 : 0, prefix % 2);
        }
        Check.due("step(0, 1)", net.step(0, 1), 0);
        net.link(0, 1, 2);
        Check.due("waiting() after it came back", net.waiting(), 4);
    }

    private static void otherLinksKeepTheirs() {
        LabelRoads net = Nets.full(3);
        net.own(0, 0);
        Check.due("waiting()", net.waiting(), 2);
        net.link(0, 1, 0);
        Check.due("waiting()", net.waiting(), 1);
        Check.due("step(0, 2)", net.step(0, 2), 1);
        Check.due("told(2, 0, 0)", net.told(2, 0, 0), 16);
        net.link(1, 2, 0);
        Check.due("told(2, 0, 0)", net.told(2, 0, 0), 16);
        Check.due("step(2, 0)", net.step(2, 0), 1);
    }

    /** A label whose RELEASE was to come over the link alone is free when the link goes. */
    private static void goneLinkFreesLabels() {
        LabelRoads net = Nets.full(3);
        net.own(0, 0);
        Nets.rest(net);
        net.own(0, LabelRoads.NONE);
        Check.due("taken(0)", net.taken(0), 1);
        net.link(0, 1, 0);
        Check.due("taken(0), one RELEASE to come", net.taken(0), 1);
        net.own(1, 0);
        Check.due("label(0, 1)", net.label(0, 1), 17);
        net.link(2, 0, 0);
        Check.due("taken(0), none to come", net.taken(0), 1);
        net.own(2, 0);
        Check.due("label(0, 2)", net.label(0, 2), 16);
    }

    /** Without a way to 2 both others withdraw two labels each: first 0 both of its own, then 1. */
    private static void settlesByRoutersThenByPrefixes() {
        LabelRoads net = Nets.line(3);
        net.own(1, 2);
        net.own(3, 2);
        Nets.rest(net);
        net.link(1, 2, 0);
        Check.due("waiting()", net.waiting(), 4);
        for (int i = 0; i < 4; i++) {
            int from = i / 2;
            int prefix = i % 2 == 0 ? 1 : 3;
            Check.due("told before", net.told(1 - from, from, prefix), prefix == 1 ? 16 : 17);
            Check.due("run(1)", net.run(1), 1);
            Check.due("told", net.told(1 - from, from, prefix), 0);
        }
    }

    private static void wrongNumbers() {
        LabelRoads net = Nets.line(3);
        for (int wrong : Nets.wrongRouters(3)) {
            Check.illegal("link(" + wrong + ", 0, 1)", () -> net.link(wrong, 0, 1));
            Check.illegal("link(0, " + wrong + ", 1)", () -> net.link(0, wrong, 1));
        }
        Check.illegal("link(-1, 0, 1)", () -> net.link(-1, 0, 1));
        Check.illegal("link(0, -1, 1)", () -> net.link(0, -1, 1));
        for (int router = 0; router < 3; router++) {
            int same = router;
            Check.illegal("link to itself", () -> net.link(same, same, 1));
            Check.illegal("link to itself", () -> net.link(same, same, 0));
        }
        for (int wrong : new int[] {-1, 16, 17, Integer.MIN_VALUE, Integer.MAX_VALUE}) {
            Check.illegal("link(0, 1, " + wrong + ")", () -> net.link(0, 1, wrong));
        }
        Check.due("link(0, 1, 15)", net.link(0, 1, 15), 1);
        Check.due("link(0, 2, 0)", net.link(0, 2, 0), 0);
    }
}
