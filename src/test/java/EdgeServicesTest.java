/**
 * "A SERVICE 0 .. 3 may be AT a router (at first at none); its label is 32 + its number. A packet for
 * a service has an entry with that label from the beginning." NONE: a packet for no service.
 */
public final class EdgeServicesTest {
    private static final int NONE = LabelRoads.NONE;

    public static void main(String[] args) {
        firstAndLastWork();
        atFirstAtNone();
        outsideTheServices();
        movedAndTakenAway();
        Check.end();
    }

    private static void firstAndLastWork() {
        for (int service = 0; service <= 3; service += 3) {
            LabelRoads net = Nets.line(2);
            net.own(0, 1);
            net.run(400);
            Check.due("serve", net.serve(service, 1), NONE);
            Check.due("send", net.send(0, 0, service, 255), LabelRoads.DELIVERED);
            Check.due("entry(0)", net.entry(0), 4096 * (32 + service) + 256 + 255);
            Check.due("entry(1), not the bottom one", net.entry(1), 4096 * 16 + 254);
            Check.due("send for another", net.send(0, 0, 3 - service, 255), LabelRoads.UNKNOWN);
            Check.due("entry(0)", net.entry(0), 4096 * (35 - service) + 256 + 255);
            Check.due("send for none", net.send(0, 0, NONE, 255), LabelRoads.DELIVERED);
            Check.due("entry(0), none", net.entry(0), 0);
            Check.due("entry(1), the bottom one", net.entry(1), 4096 * 16 + 256 + 254);
        }
    }

    private static void atFirstAtNone() {
        LabelRoads net = Nets.line(2);
        net.own(0, 0);
        for (int service = 0; service < 4; service++) {
            for (int router = 0; router < 2; router++) {
                int due = router == 0 ? LabelRoads.UNKNOWN : LabelRoads.NO_LABEL;
                Check.due("send, at none", net.send(router, 0, service, 9), due);
            }
            Check.due("serve, at none", net.serve(service, NONE), NONE);
        }
    }

    private static void outsideTheServices() {
        LabelRoads net = new LabelRoads(2);
        net.own(0, 0);
        net.send(0, 0, NONE, 9);
        for (int service : new int[] {-1, 4}) {
            Check.illegal("serve", () -> net.serve(service, 0));
        }
        for (int service : new int[] {-2, 4}) {
            Check.illegal("send", () -> net.send(0, 0, service, 9));
            Check.due("hops()", net.hops(), 1);
            Check.due("entry(0), of the packet before", net.entry(0), 0);
        }
        for (int service = 0; service < 4; service++) {
            Check.due("serve, at none", net.serve(service, 1), NONE);
        }
    }

    private static void movedAndTakenAway() {
        LabelRoads net = new LabelRoads(6);
        net.own(0, 5);
        net.own(1, 0);
        Check.due("serve(3, 5)", net.serve(3, 5), NONE);
        Check.due("send at 5", net.send(5, 0, 3, 1), LabelRoads.DELIVERED);
        Check.due("serve(3, 0)", net.serve(3, 0), 5);
        Check.due("send at 5", net.send(5, 0, 3, 1), LabelRoads.UNKNOWN);
        Check.due("send at 0", net.send(0, 1, 3, 1), LabelRoads.DELIVERED);
        Check.due("serve(3, NONE)", net.serve(3, NONE), 0);
        Check.due("send at 0", net.send(0, 1, 3, 1), LabelRoads.UNKNOWN);
        Check.due("serve(3, 0)", net.serve(3, 0), NONE);
        Check.due("send at 0", net.send(0, 1, 3, 1), LabelRoads.DELIVERED);
    }
}
