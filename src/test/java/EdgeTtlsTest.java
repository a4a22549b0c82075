/**
 * "A TTL 1 .. 255"; "to go over a link, the TTL becomes 1 less, and it is dropped (EXPIRED) instead
 * if that is 0. The entry on top has the packet's TTL when it comes to a router."
 */
public final class EdgeTtlsTest {
    private static final int NONE = LabelRoads.NONE;

    public static void main(String[] args) {
        everyTtlOnEveryWay(false, NONE);
        everyTtlOnEveryWay(true, NONE);
        everyTtlOnEveryWay(true, 3);
        leastWhereNoLinkIsNeeded();
        leastWhereNoLinkCanBeTaken();
        outsideTheTtls();
        entriesCountDown();
        Check.end();
    }

    /** A way over so many links needs a TTL of one more: one less is the last that expires. */
    private static void everyTtlOnEveryWay(boolean labelled, int service) {
        for (int links = 0; links < 6; links++) {
            LabelRoads net = Nets.line(6);
            net.own(0, 5);
            net.serve(3, 5);
            if (labelled) {
                Nets.rest(net);
            }
            for (int ttl = 1; ttl <= 7; ttl++) {
                boolean enough = ttl > links;
                int due = enough ? LabelRoads.DELIVERED : LabelRoads.EXPIRED;
                Check.due("send, TTL " + ttl, net.send(5 - links, 0, service, ttl), due);
                Check.due("hops()", net.hops(), enough ? links + 1 : ttl);
                Check.due("hop(last)", net.hop(net.hops() - 1), enough ? 5 : 5 - links + ttl - 1);
            }
            Check.due("send, TTL 254", net.send(5 - links, 0, service, 254), LabelRoads.DELIVERED);
            Check.due("send, TTL 255", net.send(5 - links, 0, service, 255), LabelRoads.DELIVERED);
            Check.due("hops()", net.hops(), links + 1);
        }
    }

    private static void leastWhereNoLinkIsNeeded() {
        LabelRoads net = new LabelRoads(2);
        net.own(0, 1);
        net.serve(0, 1);
        Check.due("send", net.send(1, 0, NONE, 1), LabelRoads.DELIVERED);
        Check.due("send for a service", net.send(1, 0, 0, 1), LabelRoads.DELIVERED);
        Check.due("entry(0)", net.entry(0), 4096 * 32 + 256 + 1);
        Check.due("send for one elsewhere", net.send(1, 0, 1, 1), LabelRoads.UNKNOWN);
    }

    private static void leastWhereNoLinkCanBeTaken() {
        LabelRoads net = Nets.line(2);
        Check.due("send, no route", net.send(0, 0, NONE, 1), LabelRoads.NO_ROUTE);
        Check.due("send for a service, no route", net.send(0, 0, 0, 1), LabelRoads.NO_ROUTE);
        net.own(0, 1);
        Check.due("send for a service, no label", net.send(0, 0, 0, 1), LabelRoads.NO_LABEL);
        Check.due("send, expired", net.send(0, 0, NONE, 1), LabelRoads.EXPIRED);
        Check.due("hops()", net.hops(), 1);
        net.run(1);
        Check.due("send for a service, expired", net.send(0, 0, 0, 1), LabelRoads.EXPIRED);
        Check.due("hops()", net.hops(), 1);
        Check.noElement("hop(1)", () -> net.hop(1));
    }

    private static void outsideTheTtls() {
        LabelRoads net = new LabelRoads(2);
        net.own(0, 0);
        for (int ttl : new int[] {0, 256, -1, -255, 257, 512}) {
            Check.illegal("send, TTL " + ttl, () -> net.send(0, 0, NONE, ttl));
            Check.illegal("send for a service, TTL " + ttl, () -> net.send(0, 0, 1, ttl));
        }
        Check.due("hops(), none was sent", net.hops(), 0);
        Check.due("send, TTL 1", net.send(0, 0, NONE, 1), LabelRoads.DELIVERED);
        Check.due("send, TTL 255", net.send(0, 0, NONE, 255), LabelRoads.DELIVERED);
    }

    /** From 255 down to 250, and from 6 down to 1. */
    private static void entriesCountDown() {
        LabelRoads net = Nets.line(6);
        net.own(0, 5);
        Nets.rest(net);
        for (int ttl : new int[] {255, 6}) {
            net.send(0, 0, NONE, ttl);
            Check.due("entry(0)", net.entry(0), 0);
            for (int i = 1; i < 6; i++) {
                Check.due("entry(" + i + ")", net.entry(i), 4096 * 16 + 256 + ttl - i);
            }
            net.send(0, 0, 2, ttl);
            Check.due("entry(0)", net.entry(0), 4096 * 34 + 256 + ttl);
            for (int i = 1; i < 6; i++) {
                Check.due("entry(" + i + ")", net.entry(i), 4096 * 16 + ttl - i);
            }
        }
    }
}
