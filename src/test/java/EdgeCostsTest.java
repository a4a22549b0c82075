/**
 * "Between any two of them may be a LINK with a COST 1 .. 15 (no link at first)"; promise 2: "0:
 * there is none any more. What it was before (0: none)." And what is counted by costs: distances.
 */
public final class EdgeCostsTest {
    private static final int NONE = LabelRoads.NONE;

    public static void main(String[] args) {
        everyPairAtEveryCost();
        outsideTheCosts();
        leastAndGreatestDistance();
        noWay();
        equalAndOneLess();
        Check.end();
    }

    private static void everyPairAtEveryCost() {
        for (int a = 0; a < 6; a++) {
            for (int b = 0; b < 6; b++) {
                if (a == b) {
                    continue;
                }
                LabelRoads net = new LabelRoads(6);
                net.own(2, b);
                Check.due("link, none before", net.link(a, b, 1), 0);
                for (int cost = 1; cost <= 15; cost++) {
                    Check.due("link, what it was", net.link(a, b, cost), cost == 1 ? 1 : cost - 1);
                    Check.due("distance", net.distance(a, 2), cost);
                }
                Check.due("link turned, to none", net.link(b, a, 0), 15);
                Check.due("distance without it", net.distance(a, 2), NONE);
                Check.due("link, none before", net.link(a, b, 15), 0);
            }
        }
    }

    private static void outsideTheCosts() {
        LabelRoads net = new LabelRoads(2);
        net.own(0, 1);
        for (int cost : new int[] {-1, 16}) {
            Check.illegal("link without a link", () -> net.link(0, 1, cost));
            Check.due("distance(0, 0)", net.distance(0, 0), NONE);
            Check.due("link, still none", net.link(0, 1, 0), 0);
        }
        net.link(0, 1, 15);
        Check.illegal("link(0, 1, 16)", () -> net.link(0, 1, 16));
        Check.due("distance(0, 0)", net.distance(0, 0), 15);
        Check.illegal("link(0, 1, -1)", () -> net.link(0, 1, -1));
        Check.due("distance(0, 0)", net.distance(0, 0), 15);
        Check.due("link, still there", net.link(0, 1, 1), 15);
    }

    private static void leastAndGreatestDistance() {
        LabelRoads net = new LabelRoads(6);
        net.own(0, 5);
        Check.due("distance of an owner without links", net.distance(5, 0), 0);
        for (int i = 0; i < 5; i++) {
            net.link(i, i + 1, 15);
        }
        Check.due("greatest distance", net.distance(0, 0), 75);
        Check.due("next", net.next(0, 0), 1);
        for (int i = 0; i < 5; i++) {
            net.link(i, i + 1, 1);
        }
        Check.due("five links of 1", net.distance(0, 0), 5);
        Check.due("least distance but the owner's", net.distance(4, 0), 1);
        Check.due("distance of the owner", net.distance(5, 0), 0);
    }

    private static void noWay() {
        LabelRoads net = new LabelRoads(4);
        net.link(0, 1, 1);
        net.link(2, 3, 1);
        net.own(1, 0);
        for (int router = 0; router < 4; router++) {
            Check.due("distance", net.distance(router, 1), router < 2 ? router : NONE);
            Check.due("next", net.next(router, 1), router == 1 ? 0 : NONE);
            Check.due("distance, no owner", net.distance(router, 0), NONE);
            Check.due("next, no owner", net.next(router, 0), NONE);
        }
    }

    /** Of two ways that of the least number is taken when they are equal, not when it is 1 more. */
    private static void equalAndOneLess() {
        LabelRoads net = new LabelRoads(4);
        net.link(0, 1, 7);
        net.link(1, 3, 8);
        net.link(0, 2, 7);
        net.link(2, 3, 7);
        net.own(0, 3);
        Check.due("next, 2 is 1 less", net.next(0, 0), 2);
        net.link(1, 3, 7);
        Check.due("next, equal", net.next(0, 0), 1);
        net.link(0, 3, 15);
        Check.due("next, 3 is 1 more", net.next(0, 0), 1);
        net.link(0, 3, 14);
        Check.due("next, all three are equal", net.next(0, 0), 1);
        net.link(0, 3, 13);
        Check.due("next, 3 is 1 less", net.next(0, 0), 3);
        Check.due("distance", net.distance(0, 0), 13);
    }
}
