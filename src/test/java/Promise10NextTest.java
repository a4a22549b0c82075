/** Promise 10: next. */
public final class Promise10NextTest {
    private static final int NONE = LabelRoads.NONE;

    public static void main(String[] args) {
        leastNumberOfEqualWays();
        leastDistanceBeforeLeastNumber();
        followsLinksAndOwners();
        wrongNumbers();
        Check.end();
    }

    private static void leastNumberOfEqualWays() {
        LabelRoads net = new LabelRoads(6);
        net.own(0, 5);
        net.link(0, 4, 3);
        net.link(4, 5, 1);
        Check.due("next(0, 0)", net.next(0, 0), 4);
        net.link(0, 3, 2);
        net.link(3, 5, 2);
        Check.due("next(0, 0)", net.next(0, 0), 3);
        net.link(0, 2, 1);
        net.link(2, 5, 3);
        Check.due("next(0, 0)", net.next(0, 0), 2);
        net.link(0, 5, 4);
        Check.due("next(0, 0), the owner has the greatest number", net.next(0, 0), 2);
        Check.due("next(2, 0)", net.next(2, 0), 5);
        net.link(2, 5, 4);
        Check.due("next(0, 0)", net.next(0, 0), 3);
    }

    private static void leastDistanceBeforeLeastNumber() {
        LabelRoads net = Nets.full(4);
        net.own(1, 3);
        for (int router = 0; router < 3; router++) {
            Check.due("next", net.next(router, 1), 3);
        }
        net.link(0, 3, 3);
        Check.due("next(0, 1)", net.next(0, 1), 1);
        net.link(0, 1, 2);
        Check.due("next(0, 1)", net.next(0, 1), 2);
        net.link(0, 2, 2);
        Check.due("next(0, 1), three ways of 3", net.next(0, 1), 1);
    }

    private static void followsLinksAndOwners() {
        LabelRoads net = Nets.line(4);
        Check.due("next(0, 2), no owner", net.next(0, 2), NONE);
        net.own(2, 1);
        Check.due("next(0, 2)", net.next(0, 2), 1);
        Check.due("next(1, 2), the owner", net.next(1, 2), NONE);
        Check.due("next(2, 2)", net.next(2, 2), 1);
        Check.due("next(3, 2)", net.next(3, 2), 2);
        Check.due("next(3, 1), another prefix", net.next(3, 1), NONE);
        net.own(2, 3);
        Check.due("next(2, 2)", net.next(2, 2), 3);
        net.link(2, 3, 0);
        Check.due("next(2, 2), no way", net.next(2, 2), NONE);
        Check.due("next(0, 2), no way", net.next(0, 2), NONE);
    }

    private static void wrongNumbers() {
        LabelRoads net = Nets.line(3);
        for (int wrong : Nets.wrongRouters(3)) {
            Check.illegal("next(" + wrong + ", 0)", () -> net.next(wrong, 0));
        }
        Check.illegal("next(-1, 0)", () -> net.next(-1, 0));
        for (int wrong : Nets.WRONG_PREFIXES) {
            Check.illegal("next(0, " + wrong + ")", () -> net.next(0, wrong));
        }
    }
}
