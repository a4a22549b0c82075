/**
 * "LABELS of a router are 16 .. 23"; "it gets the least one that is not taken (none if all are)"; "a
 * label is TAKEN if the router has it for a prefix, or has withdrawn it and a RELEASE is still to
 * come."
 */
public final class EdgeLabelsTest {
    private static final int NONE = LabelRoads.NONE;

    public static void main(String[] args) {
        fromTheFirstToTheLast();
        noneForAnOwner();
        noneForOneThatWasTold();
        noneIsNeitherToldNorWithdrawn();
        halfHeldHalfAwaited();
        leastOfSeveralFreeOnes();
        withoutLinksNoneIsAwaited();
        aRouterWithoutLabelStillForwards();
        Check.end();
    }

    private static void fromTheFirstToTheLast() {
        LabelRoads net = Nets.line(2);
        for (int label = 16; label <= 23; label++) {
            Check.due("taken(0)", net.taken(0), label - 16);
            net.own(3, 0);
            Check.due("label(0, 3)", net.label(0, 3), label);
            net.own(3, NONE);
            Check.due("label(0, 3), withdrawn", net.label(0, 3), 0);
        }
        Check.due("taken(0)", net.taken(0), 8);
        Check.due("taken(1)", net.taken(1), 0);
        for (int label = 16; label <= 23; label++) {
            Check.due("step(0, 1), MAP", net.step(0, 1), 1);
            Check.due("told(1, 0, 3)", net.told(1, 0, 3), label);
            Check.due("step(0, 1), WITHDRAW", net.step(0, 1), 2);
            Check.due("told(1, 0, 3)", net.told(1, 0, 3), 0);
            Check.due("taken(0)", net.taken(0), 24 - label);
            Check.due("step(1, 0), RELEASE", net.step(1, 0), 3);
            Check.due("taken(0)", net.taken(0), 23 - label);
        }
    }

    private static void noneForAnOwner() {
        LabelRoads net = Nets.line(2);
        Nets.useUpLabels(net, 0, 0, 7);
        net.own(0, 0);
        Check.due("label(0, 0), the last one", net.label(0, 0), 23);
        net.own(1, 0);
        Check.due("label(0, 1), all are taken", net.label(0, 1), 0);
        Check.due("taken(0)", net.taken(0), 8);
        Check.due("waiting(), no MAP without a label", net.waiting(), 15);
        Check.due("distance(0, 1), it owns all the same", net.distance(0, 1), 0);
        Check.due("send", net.send(1, 1, NONE, 2), LabelRoads.DELIVERED);
        Check.due("entry(1)", net.entry(1), 0);
        Check.due("step(0, 1), MAP", net.step(0, 1), 1);
        Check.due("step(0, 1), WITHDRAW", net.step(0, 1), 2);
        Check.due("step(1, 0), MAP of its own", net.step(1, 0), 1);
        Check.due("label(0, 1), still none", net.label(0, 1), 0);
        Check.due("step(1, 0), RELEASE", net.step(1, 0), 3);
        Check.due("label(0, 1), the first one is free", net.label(0, 1), 16);
        Check.due("taken(0)", net.taken(0), 8);
    }

    /** Router 1 is told a label for prefix 1 by the owner, but has none left of its own. */
    private static void noneForOneThatWasTold() {
        LabelRoads net = Nets.line(3);
        Nets.useUpLabels(net, 1, 0, 8);
        net.own(1, 0);
        int waiting = net.waiting();
        Check.due("step(0, 1), MAP", net.step(0, 1), 1);
        Check.due("told(1, 0, 1)", net.told(1, 0, 1), 16);
        Check.due("label(1, 1), all are taken", net.label(1, 1), 0);
        Check.due("waiting()", net.waiting(), waiting - 1);
        for (int other = 0; other <= 2; other += 2) {
            Check.due("taken(1)", net.taken(1), 8);
            Check.due("step, MAP", net.step(1, other), 1);
            Check.due("step, WITHDRAW", net.step(1, other), 2);
            Check.due("label(1, 1)", net.label(1, 1), 0);
            Check.due("step, RELEASE", net.step(other, 1), 3);
        }
        Check.due("label(1, 1), both RELEASEs of 16 came", net.label(1, 1), 16);
        Check.due("taken(1)", net.taken(1), 8);
    }

    private static void noneIsNeitherToldNorWithdrawn() {
        LabelRoads net = Nets.line(2);
        Nets.useUpLabels(net, 0, 0, 8);
        Check.due("waiting()", net.waiting(), 16);
        Nets.useUpLabels(net, 0, 1, 3);
        Check.due("waiting()", net.waiting(), 16);
        Check.due("lost()", net.lost(), 0);
        net.own(1, 0);
        net.link(0, 1, 5);
        Check.due("waiting(), the cost alone", net.waiting(), 16);
        Check.due("label(0, 1)", net.label(0, 1), 0);
        net.link(0, 1, 0);
        Check.due("label(0, 1), all are free", net.label(0, 1), 16);
        Check.due("taken(0)", net.taken(0), 1);
        Check.due("waiting(), no link to tell it over", net.waiting(), 0);
    }

    private static void halfHeldHalfAwaited() {
        LabelRoads net = Nets.line(2);
        for (int prefix = 0; prefix < 4; prefix++) {
            net.own(prefix, 0);
        }
        for (int prefix = 0; prefix < 4; prefix++) {
            net.own(prefix, NONE);
        }
        Check.due("taken(0), four to come", net.taken(0), 4);
        for (int prefix = 0; prefix < 4; prefix++) {
            net.own(prefix, 0);
            Check.due("label(0, ..)", net.label(0, prefix), 20 + prefix);
        }
        Check.due("taken(0)", net.taken(0), 8);
        net.own(2, NONE);
        Check.due("taken(0), three held", net.taken(0), 8);
        net.own(2, 0);
        Check.due("label(0, 2)", net.label(0, 2), 0);
        net.link(1, 0, 0);
        Check.due("label(0, 2), when the link went", net.label(0, 2), 16);
        Check.due("label(0, 3), kept", net.label(0, 3), 23);
        Check.due("taken(0)", net.taken(0), 4);
    }

    /** 18 is released first, then 16: each time the least one is taken, not the next one. */
    private static void leastOfSeveralFreeOnes() {
        LabelRoads net = Nets.line(2);
        for (int prefix = 0; prefix < 4; prefix++) {
            net.own(prefix, 0);
        }
        net.own(2, NONE);
        net.own(0, NONE);
        net.run(400);
        Check.due("taken(0)", net.taken(0), 2);
        net.own(2, 0);
        Check.due("label(0, 2)", net.label(0, 2), 16);
        net.own(0, 0);
        Check.due("label(0, 0)", net.label(0, 0), 18);
        net.own(0, NONE);
        net.own(0, 0);
        Check.due("label(0, 0), above those that are taken", net.label(0, 0), 20);
        Check.due("taken(0)", net.taken(0), 5);
    }

    private static void withoutLinksNoneIsAwaited() {
        LabelRoads net = new LabelRoads(2);
        for (int i = 0; i < 20; i++) {
            net.own(0, 0);
            Check.due("label(0, 0)", net.label(0, 0), 16);
            net.own(0, NONE);
            Check.due("taken(0)", net.taken(0), 0);
        }
        Check.due("waiting()", net.waiting(), 0);
    }

    /** 2 is told none by 1, so its packet goes there without an entry, and gets one from there on. */
    private static void aRouterWithoutLabelStillForwards() {
        LabelRoads net = Nets.line(3);
        Nets.useUpLabels(net, 1, 0, 8);
        net.own(1, 0);
        net.step(0, 1);
        net.serve(1, 0);
        Check.due("send", net.send(2, 1, NONE, 9), LabelRoads.DELIVERED);
        Check.due("entry(1)", net.entry(1), 0);
        Check.due("entry(2)", net.entry(2), 4096 * 16 + 256 + 7);
        Check.due("send for a service", net.send(2, 1, 1, 9), LabelRoads.NO_LABEL);
        Check.due("send for a service", net.send(1, 1, 1, 9), LabelRoads.DELIVERED);
    }
}
