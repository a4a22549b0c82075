/** Promise 13: taken. */
public final class Promise13TakenTest {
    private static final int NONE = LabelRoads.NONE;

    public static void main(String[] args) {
        countsOwnLabels();
        untilAllReleasesCame();
        releaseIsForOneLabel();
        wrongNumbers();
        Check.end();
    }

    private static void countsOwnLabels() {
        LabelRoads net = new LabelRoads(3);
        for (int prefix = 0; prefix < 4; prefix++) {
            Check.due("taken(2)", net.taken(2), prefix);
            net.own(prefix, 2);
        }
        Check.due("taken(2)", net.taken(2), 4);
        Check.due("taken(0)", net.taken(0), 0);
        net.own(1, NONE);
        Check.due("taken(2), no RELEASE without links", net.taken(2), 3);
    }

    private static void untilAllReleasesCame() {
        LabelRoads net = Nets.full(4);
        net.link(1, 2, 0);
        net.own(0, 0);
        Nets.rest(net);
        net.own(0, NONE);
        Check.due("taken(0)", net.taken(0), 1);
        for (int other = 1; other < 4; other++) {
            net.step(0, other);
            Check.due("taken(0), WITHDRAW came", net.taken(0), 1);
        }
        for (int other = 3; other >= 1; other--) {
            Check.due("taken(0), RELEASE to come", net.taken(0), 1);
            Check.due("step, WITHDRAW", net.step(other, 0), 2);
            Check.due("step, RELEASE", net.step(other, 0), 3);
        }
        Check.due("taken(0), all came", net.taken(0), 0);
        Check.due("taken(1)", net.taken(1), 1);
    }

    private static void releaseIsForOneLabel() {
        LabelRoads net = Nets.line(2);
        net.own(0, 0);
        net.own(0, NONE);
        net.own(1, 0);
        net.own(1, NONE);
        Check.due("taken(0)", net.taken(0), 2);
        net.step(0, 1);
        net.step(0, 1);
        net.step(0, 1);
        net.step(0, 1);
        // Each MAP of 0 that comes finds no owner any more: 1 tells nothing, and only releases.
        Check.due("step(1, 0)", net.step(1, 0), 3);
        Check.due("taken(0), 17", net.taken(0), 1);
        net.own(2, 0);
        Check.due("label(0, 2)", net.label(0, 2), 16);
        Check.due("taken(0)", net.taken(0), 2);
        Check.due("step(1, 0)", net.step(1, 0), 3);
        Check.due("taken(0)", net.taken(0), 1);
    }

    private static void wrongNumbers() {
        LabelRoads net = Nets.line(3);
        for (int wrong : Nets.wrongRouters(3)) {
            Check.illegal("taken(" + wrong + ")", () -> net.taken(wrong));
        }
        Check.illegal("taken(-1)", () -> net.taken(-1));
        Check.due("taken(2)", net.taken(2), 0);
    }
}
