/** Promise 11: label. */
public final class Promise11LabelTest {
    private static final int NONE = LabelRoads.NONE;

    public static void main(String[] args) {
        leastFreeOne();
        onlyWhenTheNextOneTold();
        isKeptWhileReady();
        noneWhenAllAreTaken();
        wrongNumbers();
        Check.end();
    }

    private static void leastFreeOne() {
        LabelRoads net = new LabelRoads(2);
        net.own(2, 0);
        net.own(0, 0);
        net.own(3, 0);
        Check.due("label(0, 2)", net.label(0, 2), 16);
        Check.due("label(0, 0)", net.label(0, 0), 17);
        Check.due("label(0, 3)", net.label(0, 3), 18);
        Check.due("label(0, 1)", net.label(0, 1), 0);
        Check.due("label(1, 2)", net.label(1, 2), 0);
        net.own(0, 1);
        Check.due("label(0, 0)", net.label(0, 0), 0);
        Check.due("label(1, 0), another router's labels", net.label(1, 0), 16);
        net.own(1, 0);
        Check.due("label(0, 1), without links 17 is free at once", net.label(0, 1), 17);
    }

    /** Router 0 hears of prefix 0 from 2, which is not its next one, and gets no label. */
    private static void onlyWhenTheNextOneTold() {
        LabelRoads net = new LabelRoads(4);
        net.link(0, 1, 1);
        net.link(0, 2, 1);
        net.link(1, 3, 1);
        net.link(2, 3, 1);
        net.own(0, 3);
        net.step(3, 2);
        net.step(2, 0);
        Check.due("told(0, 2, 0)", net.told(0, 2, 0), 16);
        Check.due("label(0, 0)", net.label(0, 0), 0);
        net.step(3, 1);
        Check.due("label(1, 0)", net.label(1, 0), 16);
        Check.due("label(0, 0)", net.label(0, 0), 0);
        net.step(1, 0);
        Check.due("label(0, 0)", net.label(0, 0), 16);
        net.link(1, 3, 0);
        Check.due("label(0, 0), 2 is next and told", net.label(0, 0), 16);
        Check.due("label(1, 0), 0 is next and told nothing", net.label(1, 0), 0);
        net.link(2, 3, 0);
        Check.due("label(0, 0), no way", net.label(0, 0), 0);
        Check.due("label(3, 0), the owner", net.label(3, 0), 16);
    }

    private static void isKeptWhileReady() {
        LabelRoads net = Nets.full(3);
        net.own(1, 0);
        net.own(0, 0);
        Nets.rest(net);
        int held = net.label(2, 0);
        net.link(0, 2, 7);
        Check.due("next(2, 0)", net.next(2, 0), 1);
        Check.due("label(2, 0)", net.label(2, 0), held);
        Check.due("waiting()", net.waiting(), 0);
        net.own(0, 2);
        Check.due("label(2, 0)", net.label(2, 0), held);
    }

    private static void noneWhenAllAreTaken() {
        LabelRoads net = Nets.line(2);
        for (int i = 0; i < 8; i++) {
            net.own(0, 0);
            Check.due("label(0, 0)", net.label(0, 0), 16 + i);
            net.own(0, NONE);
        }
        int waiting = net.waiting();
        net.own(0, 0);
        Check.due("label(0, 0), all are taken", net.label(0, 0), 0);
        Check.due("waiting(), no MAP without a label", net.waiting(), waiting);
        net.own(1, 0);
        Check.due("label(0, 1)", net.label(0, 1), 0);
        net.link(0, 1, 0);
        Check.due("label(0, 0), all are free", net.label(0, 0), 16);
        Check.due("label(0, 1)", net.label(0, 1), 17);
    }

    private static void wrongNumbers() {
        LabelRoads net = Nets.line(3);
        for (int wrong : Nets.wrongRouters(3)) {
            Check.illegal("label(" + wrong + ", 0)", () -> net.label(wrong, 0));
        }
        Check.illegal("label(-1, 0)", () -> net.label(-1, 0));
        for (int wrong : Nets.WRONG_PREFIXES) {
            Check.illegal("label(0, " + wrong + ")", () -> net.label(0, wrong));
        }
    }
}
