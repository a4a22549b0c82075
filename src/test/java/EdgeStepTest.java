/**
 * "The first message from one router to another one comes: 1, 2 or 3 by what it is, 0 when there is
 * none." And "for each other router the label that this one TOLD it, or none."
 */
public final class EdgeStepTest {
    private static final int NONE = LabelRoads.NONE;

    public static void main(String[] args) {
        noneBetweenAnyTwo();
        noneChangesNothing();
        onlyTheOtherDirection();
        firstMiddleAndLastOfTheMail();
        theLastOneOfThree();
        Check.end();
    }

    private static void noneBetweenAnyTwo() {
        for (int size = 2; size <= 6; size++) {
            LabelRoads apart = new LabelRoads(size);
            LabelRoads linked = Nets.full(size);
            for (int from = 0; from < size; from++) {
                for (int to = 0; to < size; to++) {
                    if (from != to) {
                        Check.due("step without a link", apart.step(from, to), 0);
                        Check.due("step without a message", linked.step(from, to), 0);
                        Check.due("told", linked.told(from, to, 3), 0);
                    }
                }
            }
        }
    }

    private static void noneChangesNothing() {
        Twins.Calls made = net -> {
            net.link(0, 1, 1);
            net.own(0, 0);
        };
        Twins.staySame("step(1, 0)", 3, made, net -> Check.due("step(1, 0)", net.step(1, 0), 0));
        Twins.staySame("step(1, 2)", 3, made, net -> Check.due("step(1, 2)", net.step(1, 2), 0));
        Twins.staySame("step(0, 2)", 3, made, net -> Check.due("step(0, 2)", net.step(0, 2), 0));
    }

    private static void onlyTheOtherDirection() {
        LabelRoads net = Nets.full(6);
        net.own(3, 5);
        for (int other = 0; other < 5; other++) {
            Check.due("step to the owner", net.step(other, 5), 0);
        }
        for (int other = 0; other < 5; other++) {
            Check.due("step from the owner", net.step(5, other), 1);
            Check.due("step from the owner again", net.step(5, other), 0);
            Check.due("told", net.told(other, 5, 3), 16);
            Check.due("told the owner", net.told(5, other, 3), 0);
            Check.due("step to the owner", net.step(other, 5), 1);
            Check.due("told the owner", net.told(5, other, 3), 16);
        }
    }

    /** 240 messages: the oldest, the newest and one between them come; the others keep their order. */
    private static void firstMiddleAndLastOfTheMail() {
        LabelRoads net = new LabelRoads(5);
        Nets.crowdFive(net);
        for (int i = 0; i < 11; i++) {
            Check.due("step(1, 4), MAP", net.step(1, 4), i % 2 == 0 ? 1 : 2);
        }
        Check.due("step(1, 4), the newest of all", net.step(1, 4), 2);
        Check.due("step(1, 4), none", net.step(1, 4), 0);
        Check.due("step(4, 0), the oldest of all", net.step(4, 0), 1);
        Check.due("told(0, 4, 1)", net.told(0, 4, 1), 16);
        Check.due("step(2, 3), one between", net.step(2, 3), 1);
        Check.due("told(3, 2, 1)", net.told(3, 2, 1), 16);
        Check.due("run(1), the oldest left", net.run(1), 1);
        Check.due("told(1, 4, 1)", net.told(1, 4, 1), 16);
        Check.due("step(4, 1)", net.step(4, 1), 2);
        Check.due("step(1, 4), RELEASEs of 1 to 4 are none yet but one", net.step(1, 4), 3);
        Check.due("step(1, 4), none", net.step(1, 4), 0);
    }

    private static void theLastOneOfThree() {
        LabelRoads net = Nets.line(2);
        net.own(0, 0);
        net.own(0, NONE);
        net.own(0, 0);
        Check.due("step(0, 1), MAP of 16", net.step(0, 1), 1);
        Check.due("told(1, 0, 0)", net.told(1, 0, 0), 16);
        Check.due("step(0, 1), WITHDRAW of 16", net.step(0, 1), 2);
        Check.due("told(1, 0, 0)", net.told(1, 0, 0), 0);
        Check.due("step(0, 1), MAP of 17", net.step(0, 1), 1);
        Check.due("told(1, 0, 0)", net.told(1, 0, 0), 17);
        Check.due("step(0, 1), none", net.step(0, 1), 0);
    }
}
