/**
 * "WHEN A LINK GOES, all messages on it go, what both told one another is told no more, and no RELEASE
 * is to come from one to the other. WHEN A LINK COMES between a and b (a below b), a sends b a MAP for
 * each of its labels, by rising prefixes, then b sends a." With nothing on it, and with all.
 */
public final class EdgeLinksTest {
    private static final int NONE = LabelRoads.NONE;

    public static void main(String[] args) {
        comesWithoutLabels();
        comesWithAllLabels();
        goesWithNothingOnIt();
        goesWithAllKindsOfMessages();
        noReleaseToComeFromEither();
        comesBackAtOnce();
        costAloneTellsNothing();
        Check.end();
    }

    private static void comesWithoutLabels() {
        for (int a = 0; a < 6; a++) {
            LabelRoads net = new LabelRoads(6);
            net.link(a, (a + 1) % 6, 15);
            Check.due("waiting()", net.waiting(), 0);
        }
    }

    /** Four labels on either side: eight MAPs, those of the lower router first, by prefixes. */
    private static void comesWithAllLabels() {
        for (int turned = 0; turned < 2; turned++) {
            LabelRoads net = Nets.line(3);
            for (int prefix = 3; prefix >= 0; prefix--) {
                net.own(prefix, 1);
            }
            Nets.rest(net);
            net.link(turned == 0 ? 0 : 2, turned == 0 ? 2 : 0, 3);
            Check.due("waiting()", net.waiting(), 8);
            for (int i = 0; i < 8; i++) {
                int from = i < 4 ? 0 : 2;
                int prefix = i % 4;
                Check.due("told before", net.told(2 - from, from, prefix), 0);
                Check.due("run(1)", net.run(1), 1);
                Check.due("told", net.told(2 - from, from, prefix), 19 - prefix);
            }
            Check.due("waiting()", net.waiting(), 0);
        }
        twoOwnersOfTwo();
    }

    private static void twoOwnersOfTwo() {
        for (int turned = 0; turned < 2; turned++) {
            LabelRoads net = new LabelRoads(6);
            net.own(0, 5);
            net.own(1, 3);
            net.own(2, 5);
            net.own(3, 3);
            net.link(turned == 0 ? 3 : 5, turned == 0 ? 5 : 3, 3);
            Check.due("waiting()", net.waiting(), 4);
            int[] order = {1, 3, 0, 2};
            for (int prefix : order) {
                int from = prefix % 2 == 1 ? 3 : 5;
                Check.due("told before", net.told(8 - from, from, prefix), 0);
                Check.due("run(1)", net.run(1), 1);
                Check.due("told", net.told(8 - from, from, prefix), prefix < 2 ? 16 : 17);
            }
        }
    }

    private static void goesWithNothingOnIt() {
        LabelRoads net = Nets.full(3);
        net.own(0, 0);
        net.step(0, 1);
        net.step(1, 0);
        net.step(1, 2);
        Check.due("waiting(), on the link of 0 and 2", net.waiting(), 1);
        net.link(1, 2, 0);
        Check.due("waiting()", net.waiting(), 1);
        Check.due("told(2, 1, 0)", net.told(2, 1, 0), 0);
        Check.due("told(1, 0, 0)", net.told(1, 0, 0), 16);
        Check.due("told(0, 1, 0)", net.told(0, 1, 0), 16);
        Check.due("step(0, 2)", net.step(0, 2), 1);
    }

    /** MAP, WITHDRAW and RELEASE, either way. */
    private static void goesWithAllKindsOfMessages() {
        LabelRoads net = Nets.line(3);
        net.own(0, 0);
        net.own(1, 1);
        net.run(400);
        net.own(0, NONE);
        Check.due("step(0, 1), WITHDRAW", net.step(0, 1), 2);
        net.own(1, NONE);
        net.own(2, 0);
        net.own(3, 1);
        // 0 to 1: WITHDRAW, MAP; 1 to 0: two WITHDRAWs, RELEASE, MAP; 1 and 2: those of 1 and 2.
        int between = net.waiting();
        net.link(1, 2, 0);
        Check.due("waiting(), between 0 and 1", net.waiting(), 6);
        Check.due("some were between 1 and 2", between > 6 ? 1 : 0, 1);
        net.link(0, 1, 0);
        Check.due("waiting()", net.waiting(), 0);
        Check.due("lost()", net.lost(), 0);
        for (int router = 0; router < 3; router++) {
            Check.due("taken", net.taken(router), router == 2 ? 0 : 1);
        }
        Check.due("run(400)", net.run(400), 0);
    }

    private static void noReleaseToComeFromEither() {
        LabelRoads net = Nets.line(2);
        net.own(0, 0);
        net.own(1, 1);
        Nets.rest(net);
        net.own(0, NONE);
        net.own(1, NONE);
        Check.due("taken(0)", net.taken(0), 2);
        Check.due("taken(1)", net.taken(1), 2);
        net.link(0, 1, 0);
        Check.due("taken(0)", net.taken(0), 0);
        Check.due("taken(1)", net.taken(1), 0);
        net.link(0, 1, 1);
        Check.due("waiting(), nothing to tell", net.waiting(), 0);
        Check.due("taken(0)", net.taken(0), 0);
    }

    /** What was on the link does not come back with it. */
    private static void comesBackAtOnce() {
        LabelRoads net = Nets.line(2);
        Nets.useUpLabels(net, 0, 0, 3);
        net.own(1, 0);
        Check.due("label(0, 1)", net.label(0, 1), 19);
        Check.due("waiting()", net.waiting(), 7);
        Check.due("link(0, 1, 0)", net.link(0, 1, 0), 1);
        Check.due("link(0, 1, 15)", net.link(0, 1, 15), 0);
        Check.due("waiting()", net.waiting(), 1);
        Check.due("step(0, 1)", net.step(0, 1), 1);
        Check.due("told(1, 0, 1)", net.told(1, 0, 1), 19);
        Check.due("told(1, 0, 0)", net.told(1, 0, 0), 0);
        net.own(0, 0);
        Check.due("label(0, 0), the first one is free", net.label(0, 0), 16);
    }

    private static void costAloneTellsNothing() {
        LabelRoads net = Nets.line(2);
        net.own(0, 0);
        Nets.rest(net);
        for (int cost = 15; cost >= 1; cost--) {
            net.link(0, 1, cost);
            Check.due("waiting()", net.waiting(), 0);
            Check.due("told(1, 0, 0)", net.told(1, 0, 0), 16);
            Check.due("label(1, 0)", net.label(1, 0), 16);
            Check.due("distance(1, 0)", net.distance(1, 0), cost);
        }
    }
}
