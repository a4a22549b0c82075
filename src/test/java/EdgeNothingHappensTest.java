/**
 * Promise 2 and 3: "If it is what it was nothing happens", "if it is who it was nothing happens".
 * On nets with nothing there, with messages on their way, with no labels left and at rest.
 */
public final class EdgeNothingHappensTest {
    private static final int NONE = LabelRoads.NONE;

    public static void main(String[] args) {
        nothingThere();
        onTheWay();
        noLabelsLeft();
        atRest();
        manyTimes();
        Check.end();
    }

    private static void nothingThere() {
        for (int size = 2; size <= 4; size++) {
            sameAgain("a new net", size, net -> { });
        }
    }

    private static void onTheWay() {
        sameAgain("messages on their way", 3, net -> {
            net.link(0, 1, 1);
            net.link(1, 2, 15);
            net.own(0, 0);
            net.own(3, 2);
            net.serve(0, 2);
            net.run(2);
            net.own(0, 1);
            net.send(0, 3, 1, 9);
        });
    }

    private static void noLabelsLeft() {
        sameAgain("no labels left", 3, net -> {
            Nets.linkAll(net, 3);
            Nets.useUpLabels(net, 2, 0, 8);
            net.own(1, 2);
            net.own(2, 2);
        });
    }

    private static void atRest() {
        sameAgain("labels at rest", 4, net -> {
            Nets.linkAll(net, 4);
            for (int prefix = 0; prefix < 4; prefix++) {
                net.own(prefix, prefix);
            }
            net.run(400);
        });
    }

    /** What is, is asked of a third net by calls that change it. */
    private static void sameAgain(String name, int size, Twins.Calls made) {
        LabelRoads asked = new LabelRoads(size);
        made.on(asked);
        for (int first = 0; first < size; first++) {
            for (int second = first + 1; second < size; second++) {
                int a = first;
                int b = second;
                int cost = asked.link(a, b, 0);
                String at = " between " + a + " and " + b + " on " + name;
                Twins.staySame("link" + at, size, made,
                        net -> Check.due("link" + at, net.link(a, b, cost), cost));
                Twins.staySame("link back" + at, size, made,
                        net -> Check.due("link back" + at, net.link(b, a, cost), cost));
            }
        }
        for (int number = 0; number < 4; number++) {
            int i = number;
            int owner = asked.own(i, NONE);
            int place = asked.serve(i, NONE);
            String at = " of " + i + " on " + name;
            Twins.staySame("own" + at, size, made,
                    net -> Check.due("own" + at, net.own(i, owner), owner));
            Twins.staySame("serve" + at, size, made,
                    net -> Check.due("serve" + at, net.serve(i, place), place));
        }
    }

    private static void manyTimes() {
        LabelRoads net = Nets.full(6);
        net.own(0, 0);
        for (int i = 0; i < 100; i++) {
            Check.due("own(0, 0)", net.own(0, 0), 0);
            Check.due("link(0, 5, 1)", net.link(0, 5, 1), 1);
        }
        Check.due("waiting()", net.waiting(), 5);
        Check.due("lost()", net.lost(), 0);
        Check.due("label(0, 0)", net.label(0, 0), 16);
        Check.due("taken(0)", net.taken(0), 1);
    }
}
