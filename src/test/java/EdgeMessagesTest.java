/** "At most 240 are on their way in all; one more is LOST (counted)." */
public final class EdgeMessagesTest {
    private static final int NONE = LabelRoads.NONE;

    public static void main(String[] args) {
        theLastPlaceAndOneMore();
        allAreLost();
        lostWithdraws();
        theReleaseHasThePlaceOfItsWithdraw();
        mapsOfALinkThatComes();
        theLowerRouterHasTheLastPlace();
        aLinkThatGoesMakesRoom();
        theCountStays();
        nothingOnTheWay();
        Check.end();
    }

    private static LabelRoads crowded() {
        LabelRoads net = new LabelRoads(5);
        Nets.crowdFive(net);
        return net;
    }

    private static void counts(LabelRoads net, int waiting, int lost) {
        Check.due("waiting()", net.waiting(), waiting);
        Check.due("lost()", net.lost(), lost);
    }

    /** With 239 on their way the MAP to the first router is sent, those to the others are lost. */
    private static void theLastPlaceAndOneMore() {
        LabelRoads net = crowded();
        Check.due("step(4, 0), MAP", net.step(4, 0), 1);
        counts(net, 239, 0);
        net.own(0, 0);
        counts(net, 240, 3);
        Check.due("label(0, 0)", net.label(0, 0), 16);
        for (int other = 2; other < 5; other++) {
            Check.due("step, lost", net.step(0, other), 0);
            Check.due("told", net.told(other, 0, 0), 0);
        }
        counts(net, 240, 3);
        Check.due("step(0, 1), sent", net.step(0, 1), 1);
        Check.due("told(1, 0, 0)", net.told(1, 0, 0), 16);
        // Router 1 gets its label 22 and tells it to four, for which there is one place.
        Check.due("label(1, 0)", net.label(1, 0), 22);
        counts(net, 240, 6);
    }

    private static void allAreLost() {
        LabelRoads net = crowded();
        net.own(0, 0);
        counts(net, 240, 4);
        Check.due("label(0, 0), it has it all the same", net.label(0, 0), 16);
        Check.due("taken(0)", net.taken(0), 1);
        Check.due("send, without labels", net.send(1, 0, NONE, 9), LabelRoads.DELIVERED);
        Check.due("send for a service", net.send(1, 0, 0, 9), LabelRoads.NO_LABEL);
        Nets.rest(net);
        for (int other = 1; other < 5; other++) {
            Check.due("told, lost for ever", net.told(other, 0, 0), 0);
            Check.due("label", net.label(other, 0), 0);
        }
        counts(net, 0, 4);
    }

    /** Four MAPs come, so that four are sent, but no WITHDRAW: what they told stays told. */
    private static void lostWithdraws() {
        LabelRoads net = crowded();
        for (int other = 0; other < 4; other++) {
            Check.due("step, MAP", net.step(4, other), 1);
        }
        counts(net, 236, 0);
        net.own(0, 0);
        counts(net, 240, 0);
        net.own(0, NONE);
        counts(net, 240, 4);
        Check.due("label(0, 0)", net.label(0, 0), 0);
        Nets.rest(net);
        for (int other = 1; other < 5; other++) {
            Check.due("told", net.told(other, 0, 0), 16);
            Check.due("taken(0), RELEASEs are to come", net.taken(0), 1);
            net.link(0, other, 0);
            Check.due("told", net.told(other, 0, 0), 0);
        }
        Check.due("taken(0), none is to come any more", net.taken(0), 0);
    }

    /**
     * Router 1 has withdrawn its label; its WITHDRAW comes to 2 with 240 on their way: the RELEASE
     * has its place, and 2's own WITHDRAWs are lost.
     */
    private static void theReleaseHasThePlaceOfItsWithdraw() {
        LabelRoads net = new LabelRoads(6);
        for (int other = 0; other < 5; other++) {
            net.link(5, other, 15);
            if (other < 4) {
                net.link(4, other, 15);
            }
        }
        Nets.turnAway(net);
        counts(net, 15, 0);
        Nets.useUpLabels(net, 5, 1, 8);
        Nets.useUpLabels(net, 4, 1, 8);
        Nets.useUpLabels(net, 3, 1, 8);
        counts(net, 239, 0);
        Nets.useUpLabels(net, 0, 1, 1);
        counts(net, 240, 7);
        Check.due("label(2, 0)", net.label(2, 0), 16);
        Check.due("step(1, 2), WITHDRAW", net.step(1, 2), 2);
        Check.due("label(2, 0)", net.label(2, 0), 0);
        Check.due("taken(2)", net.taken(2), 1);
        counts(net, 240, 10);
        Check.due("step(2, 1), MAP", net.step(2, 1), 1);
        Check.due("step(2, 1), RELEASE", net.step(2, 1), 3);
        Check.due("step(2, 1), its WITHDRAW is lost", net.step(2, 1), 0);
    }

    /** Router 5, with labels for prefixes 2 and 3, gets a link when one place is left, and none. */
    private static void mapsOfALinkThatComes() {
        LabelRoads net = new LabelRoads(6);
        net.own(2, 5);
        net.own(3, 5);
        Nets.crowdFive(net);
        net.step(4, 0);
        net.link(0, 5, 1);
        counts(net, 240, 1);
        net.link(5, 1, 1);
        counts(net, 240, 3);
        Check.due("step(5, 1), lost", net.step(5, 1), 0);
        Check.due("step(5, 0), of prefix 2", net.step(5, 0), 1);
        Check.due("told(0, 5, 2)", net.told(0, 5, 2), 16);
        Check.due("told(0, 5, 3)", net.told(0, 5, 3), 0);
        Check.due("step(5, 0), of prefix 3 was lost", net.step(5, 0), 0);
        // 0 told the label that it got to 1, and no more to 2, 3, 4 and 5.
        counts(net, 240, 7);
    }

    private static void theLowerRouterHasTheLastPlace() {
        LabelRoads net = new LabelRoads(6);
        Nets.linkAll(net, 5);
        net.own(2, 5);
        net.own(0, 0);
        Nets.rest(net);
        for (int router = 4; router >= 1; router--) {
            Nets.useUpLabels(net, router, 1, 7);
        }
        Nets.useUpLabels(net, 0, 1, 2);
        counts(net, 240, 0);
        Check.due("step(4, 0), MAP", net.step(4, 0), 1);
        net.link(5, 0, 1);
        counts(net, 240, 1);
        Check.due("step(5, 0), lost", net.step(5, 0), 0);
        Check.due("step(0, 5), sent", net.step(0, 5), 1);
        Check.due("told(5, 0, 0)", net.told(5, 0, 0), 16);
    }

    private static void aLinkThatGoesMakesRoom() {
        LabelRoads net = crowded();
        net.link(4, 3, 0);
        counts(net, 208, 0);
        net.own(0, 0);
        counts(net, 212, 0);
        for (int prefix = 1; prefix < 4; prefix++) {
            net.own(prefix, 0);
        }
        counts(net, 224, 0);
        net.own(0, NONE);
        net.own(0, 0);
        net.own(0, NONE);
        net.own(0, 0);
        counts(net, 240, 0);
        net.own(0, NONE);
        counts(net, 240, 4);
    }

    private static void theCountStays() {
        LabelRoads net = crowded();
        net.own(0, 0);
        net.own(2, 0);
        counts(net, 240, 8);
        net.link(0, 1, 0);
        Check.due("lost() when a link went", net.lost(), 8);
        Nets.rest(net);
        Check.due("lost() at rest", net.lost(), 8);
        net.link(0, 1, 1);
        Nets.rest(net);
        Check.due("told(1, 0, 0), the link came back", net.told(1, 0, 0), 16);
        Check.due("told(2, 0, 0), lost", net.told(2, 0, 0), 0);
        Check.due("lost() at rest", net.lost(), 8);
    }

    private static void nothingOnTheWay() {
        LabelRoads net = new LabelRoads(6);
        counts(net, 0, 0);
        for (int prefix = 0; prefix < 4; prefix++) {
            net.own(prefix, prefix);
            net.own(prefix, prefix + 1);
            net.own(prefix, NONE);
        }
        counts(net, 0, 0);
        Nets.linkAll(net, 6);
        counts(net, 0, 0);
        Check.due("run(400)", net.run(400), 0);
        counts(net, 0, 0);
    }
}
