/** Promise 9: distance. */
public final class Promise09DistanceTest {
    private static final int NONE = LabelRoads.NONE;

    public static void main(String[] args) {
        longestWay();
        leastSumNotFewestLinks();
        followsLinksAndOwners();
        wrongNumbers();
        Check.end();
    }

    private static void longestWay() {
        LabelRoads net = new LabelRoads(6);
        int[] order = {3, 0, 5, 1, 4, 2};
        for (int i = 0; i < 5; i++) {
            net.link(order[i], order[i + 1], 15);
        }
        net.own(3, 3);
        net.own(2, 2);
        for (int i = 0; i < 6; i++) {
            Check.due("distance to one end", net.distance(order[i], 3), 15 * i);
            Check.due("distance to the other", net.distance(order[i], 2), 15 * (5 - i));
            Check.due("distance to none", net.distance(order[i], 1), NONE);
        }
    }

    private static void leastSumNotFewestLinks() {
        LabelRoads net = new LabelRoads(5);
        net.link(0, 4, 9);
        net.own(0, 4);
        Check.due("distance(0, 0)", net.distance(0, 0), 9);
        net.link(0, 1, 2);
        net.link(1, 2, 2);
        net.link(2, 3, 2);
        Check.due("distance(0, 0)", net.distance(0, 0), 9);
        Check.due("distance(3, 0)", net.distance(3, 0), 15);
        net.link(3, 4, 2);
        Check.due("distance(0, 0)", net.distance(0, 0), 8);
        net.link(3, 4, 3);
        Check.due("distance(0, 0)", net.distance(0, 0), 9);
        net.link(3, 4, 4);
        Check.due("distance(0, 0)", net.distance(0, 0), 9);
        Check.due("distance(3, 0)", net.distance(3, 0), 4);
    }

    private static void followsLinksAndOwners() {
        LabelRoads net = Nets.line(3);
        net.own(0, 0);
        Check.due("distance(0, 0)", net.distance(0, 0), 0);
        Check.due("distance(2, 0)", net.distance(2, 0), 2);
        net.link(1, 2, 0);
        Check.due("distance(2, 0)", net.distance(2, 0), NONE);
        Check.due("distance(1, 0)", net.distance(1, 0), 1);
        net.own(0, 2);
        Check.due("distance(2, 0)", net.distance(2, 0), 0);
        Check.due("distance(0, 0)", net.distance(0, 0), NONE);
        net.own(0, NONE);
        Check.due("distance(2, 0)", net.distance(2, 0), NONE);
    }

    private static void wrongNumbers() {
        LabelRoads net = Nets.line(3);
        for (int wrong : Nets.wrongRouters(3)) {
            Check.illegal("distance(" + wrong + ", 0)", () -> net.distance(wrong, 0));
        }
        Check.illegal("distance(-1, 0)", () -> net.distance(-1, 0));
        for (int wrong : Nets.WRONG_PREFIXES) {
            Check.illegal("distance(0, " + wrong + ")", () -> net.distance(0, wrong));
        }
    }
}
