/** Promise 4: serve. */
public final class Promise04ServeTest {
    private static final int NONE = LabelRoads.NONE;

    public static void main(String[] args) {
        LabelRoads net = Nets.line(5);
        for (int service = 0; service < 4; service++) {
            Check.due("serve(.., 4)", net.serve(service, 4), NONE);
            Check.due("serve(.., 4)", net.serve(service, 4), 4);
            Check.due("serve(.., 0)", net.serve(service, 0), 4);
            Check.due("serve(.., NONE)", net.serve(service, NONE), 0);
            Check.due("serve(.., NONE)", net.serve(service, NONE), NONE);
        }
        servicesAreApart();
        noMessageComesOfIt();
        for (int wrong : Nets.WRONG_PREFIXES) {
            Check.illegal("serve(" + wrong + ", 0)", () -> net.serve(wrong, 0));
        }
        for (int wrong : Nets.wrongRouters(5)) {
            Check.illegal("serve(0, " + wrong + ")", () -> net.serve(0, wrong));
        }
        Check.due("serve(0, NONE)", net.serve(0, NONE), NONE);
        Check.end();
    }

    private static void servicesAreApart() {
        LabelRoads net = new LabelRoads(4);
        for (int service = 0; service < 4; service++) {
            net.serve(service, 3 - service);
        }
        for (int router = 0; router < 4; router++) {
            net.own(0, router);
            for (int service = 0; service < 4; service++) {
                int due = service == 3 - router ? LabelRoads.DELIVERED : LabelRoads.UNKNOWN;
                Check.due("send to a service", net.send(router, 0, service, 1), due);
            }
        }
    }

    private static void noMessageComesOfIt() {
        LabelRoads net = Nets.line(2);
        net.serve(0, 1);
        Check.due("waiting()", net.waiting(), 0);
        Check.due("taken(1)", net.taken(1), 0);
    }
}
