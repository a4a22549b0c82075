/** A call that throws changes nothing: two nets, one with wrong calls between, stay the same. */
public final class ThrowsChangeNothingTest {
    private static final int NONE = LabelRoads.NONE;

    public static void main(String[] args) {
        LabelRoads one = busy();
        LabelRoads two = busy();
        wrongCalls(one);
        same(one, two);
        one.run(3);
        two.run(3);
        same(one, two);
        wrongCalls(one);
        Nets.rest(one);
        Nets.rest(two);
        same(one, two);
        Check.end();
    }

    private static LabelRoads busy() {
        LabelRoads net = Nets.full(4);
        net.own(0, 0);
        net.own(1, 2);
        net.serve(1, 2);
        net.run(9);
        net.own(3, 3);
        net.link(0, 3, 0);
        net.send(0, 1, 1, 20);
        return net;
    }

    private static void wrongCalls(LabelRoads net) {
        Check.illegal("link(0, 4, 1)", () -> net.link(0, 4, 1));
        Check.illegal("link(0, 1, 16)", () -> net.link(0, 1, 16));
        Check.illegal("link(0, 1, -1)", () -> net.link(0, 1, -1));
        Check.illegal("link(1, 1, 0)", () -> net.link(1, 1, 0));
        Check.illegal("own(4, 0)", () -> net.own(4, 0));
        Check.illegal("own(0, 4)", () -> net.own(0, 4));
        Check.illegal("own(0, -2)", () -> net.own(0, -2));
        Check.illegal("serve(4, 0)", () -> net.serve(4, 0));
        Check.illegal("serve(1, 4)", () -> net.serve(1, 4));
        Check.illegal("step(2, 2)", () -> net.step(2, 2));
        Check.illegal("step(2, 4)", () -> net.step(2, 4));
        Check.illegal("run(401)", () -> net.run(401));
        Check.illegal("run(-1)", () -> net.run(-1));
        Check.illegal("send(4, 0, 0, 9)", () -> net.send(4, 0, 0, 9));
        Check.illegal("send(1, 4, 0, 9)", () -> net.send(1, 4, 0, 9));
        Check.illegal("send(1, 0, 4, 9)", () -> net.send(1, 0, 4, 9));
        Check.illegal("send(1, 0, 0, 0)", () -> net.send(1, 0, 0, 0));
        Check.illegal("send(1, 0, 0, 256)", () -> net.send(1, 0, 0, 256));
        Check.noElement("hop(99)", () -> net.hop(99));
        Check.noElement("entry(-1)", () -> net.entry(-1));
    }

    private static void same(LabelRoads one, LabelRoads two) {
        Check.due("waiting()", one.waiting(), two.waiting());
        Check.due("lost()", one.lost(), two.lost());
        Check.due("hops()", one.hops(), two.hops());
        for (int i = 0; i < two.hops(); i++) {
            Check.due("hop(" + i + ")", one.hop(i), two.hop(i));
            Check.due("entry(" + i + ")", one.entry(i), two.entry(i));
        }
        for (int router = 0; router < 4; router++) {
            Check.due("taken", one.taken(router), two.taken(router));
            for (int prefix = 0; prefix < 4; prefix++) {
                Check.due("label", one.label(router, prefix), two.label(router, prefix));
                Check.due("distance", one.distance(router, prefix), two.distance(router, prefix));
                Check.due("next", one.next(router, prefix), two.next(router, prefix));
                for (int other = 0; other < 4; other++) {
                    if (other != router) {
                        int told = two.told(router, other, prefix);
                        Check.due("told", one.told(router, other, prefix), told);
                    }
                }
            }
        }
        Check.due("serve(1, 2)", one.serve(1, 2), two.serve(1, 2));
        Check.due("serve(0, NONE)", one.serve(0, NONE), two.serve(0, NONE));
    }
}
