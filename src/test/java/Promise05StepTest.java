/** Promise 5: step. */
public final class Promise05StepTest {
    public static void main(String[] args) {
        allThreeKinds();
        firstOfItsDirectionComes();
        mapTakesThePlaceOfTheToldOne();
        releaseIsSentBeforeSettling();
        withdrawOfAnotherLabelLeavesTheToldOne();
        releaseSettlesAllPrefixes();
        wrongNumbers();
        Check.end();
    }

    private static void allThreeKinds() {
        LabelRoads net = Nets.line(2);
        Check.due("step(0, 1), none", net.step(0, 1), 0);
        net.own(0, 0);
        Check.due("step(1, 0), none", net.step(1, 0), 0);
        Check.due("step(0, 1), MAP", net.step(0, 1), 1);
        Check.due("told(1, 0, 0)", net.told(1, 0, 0), 16);
        Check.due("label(1, 0)", net.label(1, 0), 16);
        Check.due("step(1, 0), MAP", net.step(1, 0), 1);
        Check.due("step(1, 0), none", net.step(1, 0), 0);
        net.own(0, LabelRoads.NONE);
        Check.due("step(0, 1), WITHDRAW", net.step(0, 1), 2);
        Check.due("told(1, 0, 0)", net.told(1, 0, 0), 0);
        Check.due("step(1, 0), WITHDRAW", net.step(1, 0), 2);
        Check.due("taken(0)", net.taken(0), 1);
        Check.due("step(1, 0), RELEASE", net.step(1, 0), 3);
        Check.due("taken(0)", net.taken(0), 0);
        Check.due("taken(1)", net.taken(1), 1);
        Check.due("step(0, 1), RELEASE", net.step(0, 1), 3);
        Check.due("taken(1)", net.taken(1), 0);
        Check.due("step(0, 1), none", net.step(0, 1), 0);
        Check.due("waiting()", net.waiting(), 0);
        Check.due("without a link", new LabelRoads(3).step(0, 2), 0);
    }

    private static void firstOfItsDirectionComes() {
        LabelRoads net = Nets.full(3);
        net.own(0, 0);
        net.own(1, 0);
        net.own(2, 1);
        Check.due("step(1, 2)", net.step(1, 2), 1);
        Check.due("told(2, 1, 2)", net.told(2, 1, 2), 16);
        Check.due("told(2, 0, 0)", net.told(2, 0, 0), 0);
        Check.due("step(0, 2)", net.step(0, 2), 1);
        Check.due("told(2, 0, 0)", net.told(2, 0, 0), 16);
        Check.due("told(2, 0, 1)", net.told(2, 0, 1), 0);
        Check.due("told(1, 0, 0)", net.told(1, 0, 0), 0);
        Check.due("step(0, 2)", net.step(0, 2), 1);
        Check.due("told(2, 0, 1)", net.told(2, 0, 1), 17);
        Check.due("step(0, 2)", net.step(0, 2), 0);
    }

    /** WITHDRAW of 16 is lost, so that router 1 still has 16 as told when MAP of 17 comes to it. */
    private static void mapTakesThePlaceOfTheToldOne() {
        LabelRoads net = Nets.full(6);
        net.own(0, 0);
        Nets.rest(net);
        Nets.fill(net);
        net.own(0, LabelRoads.NONE);
        Check.due("step(3, 5), for room", net.step(3, 5), 1);
        net.own(0, 0);
        Check.due("told(1, 0, 0)", net.told(1, 0, 0), 16);
        Check.due("step(0, 1), MAP", net.step(0, 1), 1);
        Check.due("told(1, 0, 0)", net.told(1, 0, 0), 17);
        Check.due("step(0, 1), none", net.step(0, 1), 0);
    }

    /**
     * Router 1 has withdrawn its label; 2 loses its own only when that comes to it, and answers with
     * RELEASE before it sends its own WITHDRAW.
     */
    private static void releaseIsSentBeforeSettling() {
        LabelRoads net = new LabelRoads(4);
        Nets.turnAway(net);
        Check.due("label(1, 0)", net.label(1, 0), 0);
        Check.due("label(2, 0)", net.label(2, 0), 16);
        Check.due("step(1, 2), WITHDRAW", net.step(1, 2), 2);
        Check.due("told(2, 1, 0)", net.told(2, 1, 0), 0);
        Check.due("label(2, 0)", net.label(2, 0), 0);
        Check.due("step(2, 1), MAP", net.step(2, 1), 1);
        Check.due("step(2, 1), RELEASE", net.step(2, 1), 3);
        Check.due("step(2, 1), WITHDRAW", net.step(2, 1), 2);
    }

    /** WITHDRAW of 16 and MAP of 17 are lost: WITHDRAW of 17 leaves 16 told, and is answered. */
    private static void withdrawOfAnotherLabelLeavesTheToldOne() {
        LabelRoads net = Nets.full(6);
        net.own(0, 0);
        Nets.rest(net);
        Nets.fill(net);
        net.own(0, LabelRoads.NONE);
        net.own(0, 0);
        Check.due("label(0, 0)", net.label(0, 0), 17);
        Check.due("step(3, 5), for room", net.step(3, 5), 1);
        net.own(0, LabelRoads.NONE);
        Check.due("waiting()", net.waiting(), 240);
        Check.due("step(0, 1)", net.step(0, 1), 2);
        Check.due("told(1, 0, 0)", net.told(1, 0, 0), 16);
        Check.due("step(0, 1), none", net.step(0, 1), 0);
        Check.due("step(1, 0)", net.step(1, 0), 3);
        Check.due("taken(0), lost WITHDRAWs are never answered", net.taken(0), 2);
    }

    /** With all labels taken two prefixes wait; the first RELEASE gives a label to the lower one. */
    private static void releaseSettlesAllPrefixes() {
        LabelRoads net = Nets.line(2);
        Nets.useUpLabels(net, 0, 0, 8);
        Check.due("taken(0)", net.taken(0), 8);
        net.own(3, 0);
        net.own(2, 0);
        Check.due("label(0, 3)", net.label(0, 3), 0);
        Check.due("label(0, 2)", net.label(0, 2), 0);
        net.step(0, 1);
        net.step(0, 1);
        Check.due("taken(0)", net.taken(0), 8);
        Check.due("step(1, 0), RELEASE of 16", net.step(1, 0), 3);
        Check.due("label(0, 2)", net.label(0, 2), 16);
        Check.due("label(0, 3)", net.label(0, 3), 0);
        net.step(0, 1);
        net.step(0, 1);
        Check.due("step(1, 0), RELEASE of 17", net.step(1, 0), 3);
        Check.due("label(0, 3)", net.label(0, 3), 17);
    }

    private static void wrongNumbers() {
        LabelRoads net = Nets.line(3);
        for (int wrong : Nets.wrongRouters(3)) {
            Check.illegal("step(" + wrong + ", 0)", () -> net.step(wrong, 0));
            Check.illegal("step(0, " + wrong + ")", () -> net.step(0, wrong));
        }
        Check.illegal("step(-1, 0)", () -> net.step(-1, 0));
        Check.illegal("step(0, -1)", () -> net.step(0, -1));
        for (int router = 0; router < 3; router++) {
            int same = router;
            Check.illegal("step to itself", () -> net.step(same, same));
        }
    }
}
