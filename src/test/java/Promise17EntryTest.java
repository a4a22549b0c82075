/** Promise 17: entry. */
public final class Promise17EntryTest {
    private static final int NONE = LabelRoads.NONE;

    public static void main(String[] args) {
        LabelRoads net = new LabelRoads(4);
        Check.noElement("entry(0), none was sent", () -> net.entry(0));
        net.own(3, 2);
        net.own(1, 2);
        net.own(2, 1);
        for (int i = 0; i < 3; i++) {
            net.link(i, i + 1, 1);
        }
        net.own(0, 3);
        plain(net);
        Nets.rest(net);
        Check.due("label(3, 0)", net.label(3, 0), 16);
        labelled(net);
        forServices(net);
        Check.end();
    }

    private static void plain(LabelRoads net) {
        net.send(0, 0, NONE, 200);
        for (int i = 0; i < 4; i++) {
            Check.due("entry(" + i + "), no labels yet", net.entry(i), 0);
        }
        net.send(0, 0, 2, 200);
        Check.due("entry(0), it begins with its own", net.entry(0), 4096 * 34 + 256 + 200);
        Check.noElement("entry(1)", () -> net.entry(1));
    }

    private static void labelled(LabelRoads net) {
        net.send(0, 0, NONE, 255);
        Check.due("entry(0)", net.entry(0), 0);
        Check.due("entry(1)", net.entry(1), 4096 * net.label(1, 0) + 256 + 254);
        Check.due("entry(2)", net.entry(2), 4096 * net.label(2, 0) + 256 + 253);
        Check.due("entry(3)", net.entry(3), 4096 * 16 + 256 + 252);
        Check.due("label(2, 0), a third label", net.label(2, 0) > 17 ? 1 : 0, 1);
        for (int wrong : new int[] {-1, 4, 5, 255, Integer.MIN_VALUE, Integer.MAX_VALUE}) {
            Check.noElement("entry(" + wrong + ")", () -> net.entry(wrong));
        }
    }

    private static void forServices(LabelRoads net) {
        for (int service = 0; service < 4; service++) {
            net.send(0, 0, service, 10);
            Check.due("entry(0)", net.entry(0), 4096 * (32 + service) + 256 + 10);
            Check.due("entry(1)", net.entry(1), 4096 * net.label(1, 0) + 9);
            Check.due("entry(2)", net.entry(2), 4096 * net.label(2, 0) + 8);
            Check.due("entry(3)", net.entry(3), 4096 * 16 + 7);
        }
        net.send(3, 0, 1, 1);
        Check.due("entry(0), at the owner", net.entry(0), 4096 * 33 + 256 + 1);
        Check.noElement("entry(1)", () -> net.entry(1));
    }
}
