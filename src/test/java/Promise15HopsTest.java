/** Promise 15: hops. */
public final class Promise15HopsTest {
    private static final int NONE = LabelRoads.NONE;

    public static void main(String[] args) {
        LabelRoads net = Nets.line(6);
        net.own(0, 5);
        Check.due("hops(), none was sent", net.hops(), 0);
        for (int router = 0; router < 6; router++) {
            net.send(router, 0, NONE, 255);
            Check.due("hops()", net.hops(), 6 - router);
        }
        net.send(0, 1, NONE, 9);
        Check.due("hops(), dropped where it began", net.hops(), 1);
        Nets.rest(net);
        net.serve(0, 5);
        net.send(2, 0, 0, 9);
        Check.due("hops(), a router counts once when an entry goes", net.hops(), 4);
        net.send(2, 0, NONE, 3);
        Check.due("hops(), it does not come where it is expired", net.hops(), 3);
        Check.illegal("send(9, ..)", () -> net.send(9, 0, 0, 9));
        Check.due("hops(), the latest packet is the old one", net.hops(), 3);
        net.own(0, NONE);
        net.link(2, 3, 0);
        net.run(400);
        Check.due("hops(), other calls change nothing", net.hops(), 3);
        Check.end();
    }
}
