/** Promise 1: a new object. */
public final class Promise01NewObjectTest {
    public static void main(String[] args) {
        sizeIs(2, Integer.MIN_VALUE, -1, 0, 1, 2);
        sizeIs(3, 3);
        sizeIs(4, 4);
        sizeIs(5, 5);
        sizeIs(6, 6, 7, 100, Integer.MAX_VALUE);
        for (int n = 2; n <= 6; n++) {
            isEmpty(n);
        }
        objectsAreApart();
        Check.end();
    }

    private static void sizeIs(int size, int... asked) {
        for (int n : asked) {
            LabelRoads net = new LabelRoads(n);
            Check.due("taken(last) of new " + n, net.taken(size - 1), 0);
            Check.illegal("taken(last + 1) of new " + n, () -> net.taken(size));
        }
    }

    private static void isEmpty(int n) {
        LabelRoads net = new LabelRoads(n);
        Check.due("waiting()", net.waiting(), 0);
        Check.due("lost()", net.lost(), 0);
        Check.due("hops()", net.hops(), 0);
        Check.noElement("hop(0)", () -> net.hop(0));
        Check.noElement("entry(0)", () -> net.entry(0));
        Check.due("run(400)", net.run(400), 0);
        for (int router = 0; router < n; router++) {
            for (int prefix = 0; prefix < 4; prefix++) {
                Check.due("distance", net.distance(router, prefix), LabelRoads.NONE);
                Check.due("next", net.next(router, prefix), LabelRoads.NONE);
                Check.due("label", net.label(router, prefix), 0);
                for (int other = 0; other < n; other++) {
                    if (other != router) {
                        Check.due("told", net.told(router, other, prefix), 0);
                    }
                }
            }
            for (int other = 0; other < n; other++) {
                if (other != router) {
                    Check.due("step", net.step(router, other), 0);
                    Check.due("link to 0", net.link(router, other, 0), 0);
                }
            }
        }
        for (int i = 0; i < 4; i++) {
            Check.due("own", net.own(i, LabelRoads.NONE), LabelRoads.NONE);
            Check.due("serve", net.serve(i, LabelRoads.NONE), LabelRoads.NONE);
        }
    }

    private static void objectsAreApart() {
        LabelRoads one = Nets.line(3);
        LabelRoads two = new LabelRoads(3);
        one.own(0, 0);
        one.send(2, 0, -1, 9);
        Check.due("other label", two.label(0, 0), 0);
        Check.due("other waiting", two.waiting(), 0);
        Check.due("other hops", two.hops(), 0);
        Check.due("other link", two.link(0, 1, 0), 0);
    }
}
