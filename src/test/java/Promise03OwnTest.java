/** Promise 3: own. */
public final class Promise03OwnTest {
    private static final int NONE = LabelRoads.NONE;

    public static void main(String[] args) {
        tellsWhoItWas();
        sameOwnerDoesNothing();
        ownerGetsLabelAndTellsByRisingNumbers();
        lostOwnerWithdraws();
        newOwnerThatIsReadyKeepsItsLabel();
        allRoutersSettleInOrder();
        wrongNumbers();
        Check.end();
    }

    private static void tellsWhoItWas() {
        LabelRoads net = new LabelRoads(6);
        for (int prefix = 0; prefix < 4; prefix++) {
            Check.due("own(.., 5)", net.own(prefix, 5), NONE);
            Check.due("own(.., 0)", net.own(prefix, 0), 5);
            Check.due("own(.., 0)", net.own(prefix, 0), 0);
            Check.due("own(.., NONE)", net.own(prefix, NONE), 0);
            Check.due("own(.., NONE)", net.own(prefix, NONE), NONE);
        }
    }

    private static void sameOwnerDoesNothing() {
        LabelRoads net = Nets.line(2);
        net.own(0, 1);
        net.own(0, 1);
        Check.due("waiting()", net.waiting(), 1);
        Check.due("label(1, 0)", net.label(1, 0), 16);
    }

    private static void ownerGetsLabelAndTellsByRisingNumbers() {
        LabelRoads net = Nets.full(4);
        net.own(2, 1);
        Check.due("label(1, 2)", net.label(1, 2), 16);
        Check.due("waiting()", net.waiting(), 3);
        net.run(1);
        Check.due("told(0, 1, 2)", net.told(0, 1, 2), 16);
        Check.due("told(2, 1, 2)", net.told(2, 1, 2), 0);
        net.run(1);
        Check.due("told(2, 1, 2)", net.told(2, 1, 2), 16);
        Check.due("told(3, 1, 2)", net.told(3, 1, 2), 0);
        net.run(1);
        Check.due("told(3, 1, 2)", net.told(3, 1, 2), 16);
    }

    private static void lostOwnerWithdraws() {
        LabelRoads net = Nets.line(3);
        net.own(0, 1);
        Nets.rest(net);
        Check.due("own(0, NONE)", net.own(0, NONE), 1);
        for (int router = 0; router < 3; router++) {
            Check.due("label", net.label(router, 0), 0);
            Check.due("taken", net.taken(router), 1);
        }
        // 0 to 1, then 1 to 0 and 2, then 2 to 1: each settled in its turn.
        Check.due("waiting()", net.waiting(), 4);
        Check.due("told(1, 0, 0)", net.told(1, 0, 0), 16);
        net.run(1);
        Check.due("told(1, 0, 0)", net.told(1, 0, 0), 0);
        Nets.rest(net);
        for (int router = 0; router < 3; router++) {
            Check.due("taken at rest", net.taken(router), 0);
        }
    }

    private static void newOwnerThatIsReadyKeepsItsLabel() {
        LabelRoads net = Nets.line(3);
        net.own(0, 0);
        Nets.rest(net);
        Check.due("own(0, 2)", net.own(0, 2), 0);
        Check.due("waiting()", net.waiting(), 0);
        Check.due("label(0, 0)", net.label(0, 0), 16);
        Check.due("label(2, 0)", net.label(2, 0), 16);
        Check.due("distance(0, 0)", net.distance(0, 0), 2);
    }

    /** The old owner, 2, settles after the new one, 1, and has been told nothing by it yet. */
    private static void allRoutersSettleInOrder() {
        LabelRoads net = Nets.line(3);
        net.own(0, 2);
        Check.due("own(0, 1)", net.own(0, 1), 2);
        Check.due("label(1, 0)", net.label(1, 0), 16);
        Check.due("label(2, 0)", net.label(2, 0), 0);
        Check.due("waiting()", net.waiting(), 4);
        Check.due("run(1): MAP of 2", net.run(1), 1);
        Check.due("told(1, 2, 0)", net.told(1, 2, 0), 16);
        net.run(1);
        Check.due("told(0, 1, 0)", net.told(0, 1, 0), 16);
        net.run(1);
        Check.due("told(2, 1, 0)", net.told(2, 1, 0), 16);
        Check.due("label(2, 0), 16 is still taken", net.label(2, 0), 17);
        net.run(1);
        Check.due("told(1, 2, 0)", net.told(1, 2, 0), 0);
        Nets.rest(net);
        Check.due("told(1, 2, 0)", net.told(1, 2, 0), 17);
        Check.due("taken(2)", net.taken(2), 1);
    }

    private static void wrongNumbers() {
        LabelRoads net = Nets.line(4);
        for (int wrong : Nets.WRONG_PREFIXES) {
            Check.illegal("own(" + wrong + ", 0)", () -> net.own(wrong, 0));
            Check.illegal("own(" + wrong + ", NONE)", () -> net.own(wrong, NONE));
        }
        for (int wrong : Nets.wrongRouters(4)) {
            Check.illegal("own(0, " + wrong + ")", () -> net.own(0, wrong));
        }
        Check.due("own(0, 3)", net.own(0, 3), NONE);
    }
}
