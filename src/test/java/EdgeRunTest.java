/**
 * "The n messages (0 .. 400) that were sent first come, one after the other, those that are sent
 * meanwhile among them: how many there were."
 */
public final class EdgeRunTest {
    private static final int NONE = LabelRoads.NONE;

    public static void main(String[] args) {
        nothingToCome();
        noneIsAsked();
        oneLessJustAndOneMore();
        asManyAsThereCanBe();
        allOfFourHundredInParts();
        outside();
        Check.end();
    }

    private static void nothingToCome() {
        LabelRoads net = Nets.line(6);
        for (int n : new int[] {0, 1, 399, 400}) {
            Check.due("run(" + n + ")", net.run(n), 0);
        }
    }

    private static void noneIsAsked() {
        Twins.staySame("run(0)", 3, EdgeRunTest::makeBusy, net -> Check.due("run(0)", net.run(0), 0));
        LabelRoads net = new LabelRoads(5);
        Nets.crowdFive(net);
        Check.due("run(0)", net.run(0), 0);
        Check.due("waiting()", net.waiting(), 240);
    }

    private static void makeBusy(LabelRoads net) {
        Nets.linkAll(net, 3);
        net.own(0, 1);
        net.own(3, 2);
    }

    /** In a line of six 10 messages come of one owner. */
    private static void oneLessJustAndOneMore() {
        for (int n = 9; n <= 11; n++) {
            LabelRoads net = Nets.line(6);
            net.own(0, 5);
            Check.due("run(" + n + ")", net.run(n), Math.min(n, 10));
            Check.due("waiting()", net.waiting(), n == 9 ? 1 : 0);
            Check.due("run(1)", net.run(1), n == 9 ? 1 : 0);
        }
    }

    /** All prefixes change owners twice: 240 are on their way, and more than 400 would come. */
    private static void asManyAsThereCanBe() {
        LabelRoads net = changed();
        PlainModel model = changedModel();
        Check.due("run(400)", net.run(400), 400);
        Check.due("run(400) of the model", model.run(400), 400);
        Check.due("waiting(), they are not all", net.waiting(), 180);
        Check.due("waiting(), as in the model", net.waiting(), model.mail.size());
        Check.due("lost(), as in the model", net.lost(), model.lost);
        LabelRoads parts = changed();
        Check.due("run(399)", parts.run(399), 399);
        String before = State.of(parts, 6);
        Check.due("run(1)", parts.run(1), 1);
        String after = State.of(net, 6);
        if (!State.of(parts, 6).equals(after)) {
            Check.fail("run(399) and run(1) are not run(400)");
        }
        if (before.equals(after)) {
            Check.fail("run(400) is run(399)");
        }
        Check.due("run(400), the others", net.run(400), model.run(400));
        Check.due("waiting()", net.waiting(), 0);
    }

    private static LabelRoads changed() {
        LabelRoads net = Nets.full(6);
        for (int prefix = 0; prefix < 4; prefix++) {
            net.own(prefix, 0);
        }
        Nets.rest(net);
        for (int prefix = 0; prefix < 4; prefix++) {
            net.own(prefix, NONE);
            net.own(prefix, prefix + 1);
        }
        Check.due("waiting()", net.waiting(), 240);
        return net;
    }

    private static PlainModel changedModel() {
        PlainModel model = new PlainModel(6);
        for (int a = 0; a < 6; a++) {
            for (int b = a + 1; b < 6; b++) {
                model.link(a, b, 1);
            }
        }
        for (int prefix = 0; prefix < 4; prefix++) {
            model.own(prefix, 0);
        }
        model.run(400);
        for (int prefix = 0; prefix < 4; prefix++) {
            model.own(prefix, NONE);
            model.own(prefix, prefix + 1);
        }
        return model;
    }

    /** The same messages come whether they are asked for one by one or at once. */
    private static void allOfFourHundredInParts() {
        LabelRoads net = new LabelRoads(5);
        Nets.crowdFive(net);
        LabelRoads parts = new LabelRoads(5);
        Nets.crowdFive(parts);
        // 120 WITHDRAWs among the 240 are answered by as many RELEASEs.
        Check.due("run(400)", net.run(400), 360);
        for (int i = 0; i < 120; i++) {
            Check.due("run(3)", parts.run(3), 3);
        }
        Check.due("run(3)", parts.run(3), 0);
        if (!State.of(parts, 5).equals(State.of(net, 5))) {
            Check.fail("120 times run(3) is not run(400)");
        }
    }

    private static void outside() {
        LabelRoads net = new LabelRoads(5);
        for (int n : new int[] {-1, 401}) {
            Check.illegal("run(" + n + "), nothing to come", () -> net.run(n));
        }
        Nets.crowdFive(net);
        for (int n : new int[] {-1, 401}) {
            Check.illegal("run(" + n + "), 240 to come", () -> net.run(n));
            Check.due("waiting()", net.waiting(), 240);
        }
    }
}
