/** Promise 8: lost. */
public final class Promise08LostTest {
    public static void main(String[] args) {
        onlyMoreThan240();
        aMessageThatComesMakesRoom();
        lostWithdrawIsStillAwaited();
        goneLinkLosesNone();
        Check.end();
    }

    private static LabelRoads full() {
        LabelRoads net = Nets.full(6);
        net.own(0, 0);
        Nets.rest(net);
        Nets.fill(net);
        return net;
    }

    private static void onlyMoreThan240() {
        LabelRoads net = full();
        Check.due("lost()", net.lost(), 0);
        net.own(2, 0);
        Check.due("lost(), five MAPs", net.lost(), 5);
        Check.due("label(0, 2) is given all the same", net.label(0, 2), 17);
        net.own(2, LabelRoads.NONE);
        Check.due("lost(), five WITHDRAWs", net.lost(), 10);
        Check.due("step(0, 1), nothing was sent", net.step(0, 1), 0);
        net.step(5, 0);
        net.step(5, 0);
        Check.due("waiting(), MAP and WITHDRAW of 5 came", net.waiting(), 239);
        net.own(2, 0);
        Check.due("lost(), one MAP of five goes", net.lost(), 14);
        Check.due("step(0, 2), lost", net.step(0, 2), 0);
        Check.due("step(0, 1), sent", net.step(0, 1), 1);
    }

    /** The place of a WITHDRAW that comes is free for its RELEASE. */
    private static void aMessageThatComesMakesRoom() {
        LabelRoads net = full();
        Check.due("step(5, 0), MAP", net.step(5, 0), 1);
        net.own(2, 0);
        Check.due("lost()", net.lost(), 4);
        Check.due("waiting()", net.waiting(), 240);
        Check.due("step(5, 0), WITHDRAW", net.step(5, 0), 2);
        Check.due("lost()", net.lost(), 4);
        Check.due("waiting()", net.waiting(), 240);
        Check.due("step(0, 5), RELEASE", net.step(0, 5), 3);
    }

    private static void lostWithdrawIsStillAwaited() {
        LabelRoads net = full();
        net.own(0, LabelRoads.NONE);
        Check.due("label(0, 0)", net.label(0, 0), 0);
        Check.due("lost()", net.lost(), 30);
        Nets.rest(net);
        Check.due("taken(0) at rest", net.taken(0), 1);
        Check.due("told(1, 0, 0) at rest", net.told(1, 0, 0), 16);
        for (int other = 1; other < 6; other++) {
            Check.due("taken(0)", net.taken(0), 1);
            net.link(0, other, 0);
        }
        Check.due("taken(0) without links", net.taken(0), 0);
    }

    private static void goneLinkLosesNone() {
        LabelRoads net = full();
        net.link(5, 4, 0);
        Check.due("lost()", net.lost(), 0);
        // Of 240 messages, those between 5 and 4: 14 each way.
        Check.due("waiting()", net.waiting(), 212);
    }
}
