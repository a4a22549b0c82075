/** Promise 16: hop. */
public final class Promise16HopTest {
    private static final int NONE = LabelRoads.NONE;

    public static void main(String[] args) {
        LabelRoads net = new LabelRoads(6);
        int[] order = {3, 0, 5, 1, 4, 2};
        for (int i = 0; i < 5; i++) {
            net.link(order[i], order[i + 1], 15);
        }
        net.own(3, 2);
        Check.noElement("hop(0), none was sent", () -> net.hop(0));
        for (int rest = 0; rest < 2; rest++) {
            net.send(3, 3, NONE, 77);
            for (int i = 0; i < 6; i++) {
                Check.due("hop(" + i + ")", net.hop(i), order[i]);
            }
            for (int wrong : new int[] {-1, 6, 7, 255, Integer.MIN_VALUE, Integer.MAX_VALUE}) {
                Check.noElement("hop(" + wrong + ")", () -> net.hop(wrong));
            }
            Nets.rest(net);
        }
        net.send(4, 3, NONE, 1);
        Check.due("hop(0)", net.hop(0), 4);
        Check.noElement("hop(1), of the packet before", () -> net.hop(1));
        Check.end();
    }
}
