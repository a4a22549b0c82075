/** Promise 14: send. */
public final class Promise14SendTest {
    private static final int NONE = LabelRoads.NONE;

    public static void main(String[] args) {
        withoutLabels();
        withLabels();
        withSomeLabels();
        atTheOwner();
        staleLabels();
        staleLabelAtTheOwner();
        timeToLive();
        orderOfDrops();
        services();
        wrongNumbers();
        Check.end();
    }

    private static void withoutLabels() {
        LabelRoads net = Nets.line(4);
        Check.due("send, no owner", net.send(0, 0, NONE, 9), LabelRoads.NO_ROUTE);
        Check.due("hops()", net.hops(), 1);
        net.own(0, 3);
        Check.due("send", net.send(0, 0, NONE, 9), LabelRoads.DELIVERED);
        Check.due("hops()", net.hops(), 4);
        Check.due("entry(3)", net.entry(3), 0);
        net.link(1, 2, 0);
        Check.due("send, no way", net.send(0, 0, NONE, 9), LabelRoads.NO_ROUTE);
        Check.due("hops()", net.hops(), 1);
        Check.due("send", net.send(2, 0, NONE, 9), LabelRoads.DELIVERED);
    }

    private static void withLabels() {
        LabelRoads net = Nets.line(4);
        net.own(0, 3);
        Nets.rest(net);
        Check.due("send", net.send(0, 0, NONE, 9), LabelRoads.DELIVERED);
        Check.due("hops()", net.hops(), 4);
        Check.due("entry(3)", net.entry(3), 4096 * 16 + 256 + 6);
    }

    /** A packet without entries gets one where the next router has told a label. */
    private static void withSomeLabels() {
        LabelRoads net = Nets.line(4);
        net.own(1, 2);
        net.own(0, 3);
        net.step(3, 2);
        Check.due("send", net.send(0, 0, NONE, 9), LabelRoads.DELIVERED);
        Check.due("entry(1)", net.entry(1), 0);
        Check.due("entry(2)", net.entry(2), 0);
        Check.due("entry(3)", net.entry(3), 4096 * 16 + 256 + 6);
        net.step(2, 1);
        net.step(2, 1);
        Check.due("send", net.send(0, 0, NONE, 9), LabelRoads.DELIVERED);
        Check.due("entry(2)", net.entry(2), 4096 * 17 + 256 + 7);
        Check.due("entry(3)", net.entry(3), 4096 * 16 + 256 + 6);
    }

    private static void atTheOwner() {
        LabelRoads net = new LabelRoads(2);
        net.own(3, 1);
        Check.due("send", net.send(1, 3, NONE, 1), LabelRoads.DELIVERED);
        Check.due("hops()", net.hops(), 1);
        Check.due("send, service nowhere", net.send(1, 3, 2, 1), LabelRoads.UNKNOWN);
        net.serve(2, 0);
        Check.due("send, service elsewhere", net.send(1, 3, 2, 1), LabelRoads.UNKNOWN);
        net.serve(2, 1);
        Check.due("send", net.send(1, 3, 2, 1), LabelRoads.DELIVERED);
        Check.due("send, another service", net.send(1, 3, 1, 1), LabelRoads.UNKNOWN);
        Check.due("hops()", net.hops(), 1);
    }

    private static void staleLabels() {
        LabelRoads net = new LabelRoads(4);
        Nets.turnAway(net);
        Check.due("send, 1 has the label no more", net.send(2, 0, NONE, 9), LabelRoads.UNKNOWN);
        Check.due("hops()", net.hops(), 2);
        Check.due("hop(1)", net.hop(1), 1);
        Check.due("send for a service", net.send(2, 0, 0, 9), LabelRoads.UNKNOWN);
        net.step(1, 2);
        Check.due("send, without labels", net.send(2, 0, NONE, 9), LabelRoads.DELIVERED);
        Check.due("hops()", net.hops(), 4);
        Check.due("send for a service", net.send(2, 0, 0, 9), LabelRoads.NO_LABEL);
    }

    /** The owner has 17 in place of 16: a packet with 16 is none that it knows, though for it. */
    private static void staleLabelAtTheOwner() {
        LabelRoads net = Nets.line(2);
        net.own(0, 1);
        net.serve(0, 1);
        net.step(1, 0);
        net.own(0, NONE);
        net.own(0, 1);
        Check.due("label(1, 0)", net.label(1, 0), 17);
        Check.due("send with 16", net.send(0, 0, NONE, 9), LabelRoads.UNKNOWN);
        Check.due("entry(1)", net.entry(1), 4096 * 16 + 256 + 8);
        Check.due("send for a service with 16", net.send(0, 0, 0, 9), LabelRoads.UNKNOWN);
        Check.due("entry(1)", net.entry(1), 4096 * 16 + 8);
        Check.due("step(1, 0), WITHDRAW", net.step(1, 0), 2);
        Check.due("send without a label", net.send(0, 0, NONE, 9), LabelRoads.DELIVERED);
        Check.due("step(1, 0), MAP", net.step(1, 0), 1);
        Check.due("send with 17", net.send(0, 0, NONE, 9), LabelRoads.DELIVERED);
        Check.due("send for a service with 17", net.send(0, 0, 0, 9), LabelRoads.DELIVERED);
    }

    private static void timeToLive() {
        LabelRoads net = Nets.line(6);
        net.own(0, 5);
        for (int rest = 0; rest < 2; rest++) {
            for (int ttl = 1; ttl <= 5; ttl++) {
                Check.due("send, TTL too small", net.send(0, 0, NONE, ttl), LabelRoads.EXPIRED);
                Check.due("hops()", net.hops(), ttl);
            }
            Check.due("send, TTL 6", net.send(0, 0, NONE, 6), LabelRoads.DELIVERED);
            Check.due("hops()", net.hops(), 6);
            Check.due("send, TTL 255", net.send(0, 0, NONE, 255), LabelRoads.DELIVERED);
            Nets.rest(net);
        }
        net.serve(3, 5);
        Check.due("send for a service, TTL 5", net.send(0, 0, 3, 5), LabelRoads.EXPIRED);
        Check.due("send for a service, TTL 6", net.send(0, 0, 3, 6), LabelRoads.DELIVERED);
        Check.due("send for a service, TTL 255", net.send(0, 0, 3, 255), LabelRoads.DELIVERED);
    }

    /** The TTL counts only for going over a link: what drops a packet before that comes first. */
    private static void orderOfDrops() {
        LabelRoads net = Nets.line(2);
        Check.due("send, no owner, TTL 1", net.send(0, 0, NONE, 1), LabelRoads.NO_ROUTE);
        Check.due("send for a service, no owner", net.send(0, 0, 1, 1), LabelRoads.NO_ROUTE);
        net.own(0, 1);
        Check.due("send for a service, no label", net.send(0, 0, 1, 1), LabelRoads.NO_LABEL);
        Check.due("send, TTL 1", net.send(0, 0, NONE, 1), LabelRoads.EXPIRED);
        net.run(400);
        Check.due("send for a service, TTL 1", net.send(0, 0, 1, 1), LabelRoads.EXPIRED);
        Check.due("send for a service, TTL 2", net.send(0, 0, 1, 2), LabelRoads.UNKNOWN);
    }

    private static void services() {
        LabelRoads net = Nets.line(3);
        net.own(0, 2);
        net.serve(0, 2);
        net.serve(1, 1);
        net.serve(2, 0);
        Check.due("send, no label", net.send(0, 0, 0, 9), LabelRoads.NO_LABEL);
        Check.due("hops()", net.hops(), 1);
        Nets.rest(net);
        Check.due("send", net.send(0, 0, 0, 9), LabelRoads.DELIVERED);
        Check.due("hops()", net.hops(), 3);
        Check.due("send, service on the way", net.send(0, 0, 1, 9), LabelRoads.UNKNOWN);
        Check.due("hops()", net.hops(), 3);
        Check.due("send, service where it begins", net.send(0, 0, 2, 9), LabelRoads.UNKNOWN);
        Check.due("hops()", net.hops(), 3);
        Check.due("send, service nowhere", net.send(0, 0, 3, 9), LabelRoads.UNKNOWN);
        formerOwnerOnTheWay();
    }

    /** Router 1, owner no more and told nothing by 2, withdraws; 0 does not know it yet. */
    private static void formerOwnerOnTheWay() {
        LabelRoads net = Nets.line(3);
        net.own(0, 1);
        net.step(1, 0);
        net.own(0, 2);
        Check.due("send", net.send(0, 0, 0, 9), LabelRoads.UNKNOWN);
        Check.due("hops()", net.hops(), 2);
    }

    private static void wrongNumbers() {
        LabelRoads net = Nets.line(3);
        for (int wrong : Nets.wrongRouters(3)) {
            Check.illegal("send(" + wrong + ", ..)", () -> net.send(wrong, 0, 0, 9));
        }
        Check.illegal("send(-1, ..)", () -> net.send(-1, 0, 0, 9));
        for (int wrong : Nets.WRONG_PREFIXES) {
            Check.illegal("send(0, " + wrong + ", ..)", () -> net.send(0, wrong, 0, 9));
        }
        for (int wrong : new int[] {-2, 4, 5, Integer.MIN_VALUE, Integer.MAX_VALUE}) {
            Check.illegal("send(0, 0, " + wrong + ", 9)", () -> net.send(0, 0, wrong, 9));
        }
        for (int wrong : new int[] {-1, 0, 256, Integer.MIN_VALUE, Integer.MAX_VALUE}) {
            Check.illegal("send(0, 0, NONE, " + wrong + ")", () -> net.send(0, 0, NONE, wrong));
        }
        Check.due("hops(), none was sent", net.hops(), 0);
    }
}
