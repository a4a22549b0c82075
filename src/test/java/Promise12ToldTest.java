/** Promise 12: told. */
public final class Promise12ToldTest {
    public static void main(String[] args) {
        isWhatTheOtherOneTold();
        isOldUntilTheMessageComes();
        wrongNumbers();
        Check.end();
    }

    private static void isWhatTheOtherOneTold() {
        LabelRoads net = Nets.line(3);
        net.own(3, 0);
        net.own(0, 1);
        Nets.rest(net);
        Check.due("told(1, 0, 3)", net.told(1, 0, 3), 16);
        Check.due("told(0, 1, 3)", net.told(0, 1, 3), net.label(1, 3));
        Check.due("label(1, 3)", net.label(1, 3), 17);
        Check.due("told(0, 1, 0)", net.told(0, 1, 0), 16);
        Check.due("told(1, 0, 0)", net.told(1, 0, 0), 17);
        Check.due("told(2, 1, 3)", net.told(2, 1, 3), 17);
        Check.due("told(1, 2, 3)", net.told(1, 2, 3), net.label(2, 3));
        Check.due("told(2, 0, 3), no link", net.told(2, 0, 3), 0);
        Check.due("told(1, 0, 1), no owner", net.told(1, 0, 1), 0);
    }

    private static void isOldUntilTheMessageComes() {
        LabelRoads net = Nets.line(2);
        net.own(1, 0);
        Check.due("told(1, 0, 1)", net.told(1, 0, 1), 0);
        net.run(1);
        Check.due("told(1, 0, 1)", net.told(1, 0, 1), 16);
        net.own(1, LabelRoads.NONE);
        Check.due("told(1, 0, 1), WITHDRAW is on its way", net.told(1, 0, 1), 16);
        net.own(1, 0);
        Check.due("label(0, 1)", net.label(0, 1), 17);
        net.step(0, 1);
        Check.due("told(1, 0, 1)", net.told(1, 0, 1), 0);
        net.step(0, 1);
        Check.due("told(1, 0, 1)", net.told(1, 0, 1), 17);
    }

    private static void wrongNumbers() {
        LabelRoads net = Nets.line(3);
        for (int wrong : Nets.wrongRouters(3)) {
            Check.illegal("told(" + wrong + ", 0, 0)", () -> net.told(wrong, 0, 0));
            Check.illegal("told(0, " + wrong + ", 0)", () -> net.told(0, wrong, 0));
        }
        Check.illegal("told(-1, 0, 0)", () -> net.told(-1, 0, 0));
        Check.illegal("told(0, -1, 0)", () -> net.told(0, -1, 0));
        for (int wrong : Nets.WRONG_PREFIXES) {
            Check.illegal("told(0, 1, " + wrong + ")", () -> net.told(0, 1, wrong));
        }
        for (int router = 0; router < 3; router++) {
            int same = router;
            Check.illegal("told by itself", () -> net.told(same, same, 0));
        }
    }
}
