/** Nets that several tests begin with. */
final class Nets {
    static final int[] WRONG_PREFIXES = {-1, 4, 5, Integer.MIN_VALUE, Integer.MAX_VALUE};

    private Nets() {
    }

    /** Routers that there are not in a net of so many, NONE not among them. */
    static int[] wrongRouters(int size) {
        return new int[] {-2, size, size + 1, Integer.MIN_VALUE, Integer.MAX_VALUE};
    }

    /** Routers 0, 1, .. in a line, each link with cost 1. */
    static LabelRoads line(int size) {
        LabelRoads net = new LabelRoads(size);
        for (int i = 0; i + 1 < size; i++) {
            net.link(i, i + 1, 1);
        }
        return net;
    }

    /** All pairs of routers linked with cost 1. */
    static LabelRoads full(int size) {
        LabelRoads net = new LabelRoads(size);
        linkAll(net, size);
        return net;
    }

    static void linkAll(LabelRoads net, int size) {
        for (int a = 0; a < size; a++) {
            for (int b = a + 1; b < size; b++) {
                net.link(a, b, 1);
            }
        }
    }

    /** A router gets a label for a prefix and withdraws it, so many times, without a message coming. */
    static void useUpLabels(LabelRoads net, int router, int prefix, int times) {
        for (int i = 0; i < times; i++) {
            net.own(prefix, router);
            net.own(prefix, LabelRoads.NONE);
        }
    }

    /**
     * Router 1 turns from 0, the owner of prefix 0, to 3, which has told nothing, and withdraws its
     * label 16; router 2, which was told that label, does not know it yet.
     */
    static void turnAway(LabelRoads net) {
        net.link(0, 1, 1);
        net.link(1, 2, 1);
        net.link(1, 3, 1);
        net.link(3, 0, 1);
        net.own(0, 0);
        net.step(0, 1);
        net.step(1, 2);
        net.link(0, 1, 9);
    }

    /** 240 messages on their way in a full net of five, none of them from router 0: 75 calls. */
    static void crowdFive(LabelRoads net) {
        linkAll(net, 5);
        useUpLabels(net, 4, 1, 8);
        useUpLabels(net, 3, 1, 8);
        useUpLabels(net, 2, 1, 8);
        useUpLabels(net, 1, 1, 6);
        Check.due("waiting() when full", net.waiting(), 240);
        Check.due("lost() when just full", net.lost(), 0);
    }

    /** Lets all messages come; a net that never comes to rest would be a fault. */
    static void rest(LabelRoads net) {
        for (int i = 0; i < 20 && net.waiting() > 0; i++) {
            net.run(400);
        }
        Check.due("waiting() at rest", net.waiting(), 0);
    }

    /**
     * Fills the mail of a full net of six at rest, in which each router has one label: routers 5, 4
     * and 3 get and withdraw their seven other labels for prefix 1 (10 messages each), 2 three.
     */
    static void fill(LabelRoads net) {
        for (int router = 5; router >= 2; router--) {
            useUpLabels(net, router, 1, router == 2 ? 3 : 7);
        }
        Check.due("waiting() when full", net.waiting(), 240);
        Check.due("lost() when just full", net.lost(), 0);
    }
}
