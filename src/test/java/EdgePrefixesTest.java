/** "A PREFIX 0 .. 3 may be OWNED by a router (at first by none)." */
public final class EdgePrefixesTest {
    private static final int NONE = LabelRoads.NONE;

    public static void main(String[] args) {
        firstAndLastWork();
        outsideThePrefixes();
        allFourAtOneRouter();
        eachAtAnother();
        Check.end();
    }

    private static void firstAndLastWork() {
        for (int prefix = 0; prefix <= 3; prefix += 3) {
            LabelRoads net = Nets.line(2);
            Check.due("own, at first by none", net.own(prefix, NONE), NONE);
            Check.due("own", net.own(prefix, 1), NONE);
            net.run(1);
            Check.due("distance", net.distance(0, prefix), 1);
            Check.due("next", net.next(0, prefix), 1);
            Check.due("label", net.label(0, prefix), 16);
            Check.due("told", net.told(0, 1, prefix), 16);
            Check.due("send", net.send(0, prefix, NONE, 2), LabelRoads.DELIVERED);
            Check.due("entry(1)", net.entry(1), 4096 * 16 + 256 + 1);
            int another = 3 - prefix;
            Check.due("distance to another", net.distance(0, another), NONE);
            Check.due("label for another", net.label(1, another), 0);
            Check.due("told for another", net.told(0, 1, another), 0);
            Check.due("send to another", net.send(1, another, NONE, 2), LabelRoads.NO_ROUTE);
        }
    }

    private static void outsideThePrefixes() {
        LabelRoads net = Nets.line(2);
        for (int prefix : new int[] {-1, 4}) {
            Check.illegal("own", () -> net.own(prefix, 0));
            Check.illegal("distance", () -> net.distance(0, prefix));
            Check.illegal("next", () -> net.next(0, prefix));
            Check.illegal("label", () -> net.label(0, prefix));
            Check.illegal("told", () -> net.told(0, 1, prefix));
            Check.illegal("send", () -> net.send(0, prefix, NONE, 2));
        }
        Check.due("waiting()", net.waiting(), 0);
        Check.due("taken(0)", net.taken(0), 0);
    }

    private static void allFourAtOneRouter() {
        LabelRoads net = Nets.line(2);
        for (int prefix = 3; prefix >= 0; prefix--) {
            net.own(prefix, 0);
        }
        Check.due("run(400), 4 MAPs and 4 back", net.run(400), 8);
        for (int prefix = 0; prefix < 4; prefix++) {
            Check.due("label(0, ..)", net.label(0, prefix), 19 - prefix);
            Check.due("told(1, 0, ..)", net.told(1, 0, prefix), 19 - prefix);
            Check.due("told(0, 1, ..)", net.told(0, 1, prefix), 19 - prefix);
        }
        Check.due("taken(0)", net.taken(0), 4);
        Check.due("taken(1)", net.taken(1), 4);
    }

    private static void eachAtAnother() {
        LabelRoads net = Nets.line(4);
        for (int prefix = 0; prefix < 4; prefix++) {
            net.own(prefix, 3 - prefix);
        }
        for (int prefix = 0; prefix < 4; prefix++) {
            for (int router = 0; router < 4; router++) {
                int far = Math.abs(router - (3 - prefix));
                Check.due("distance", net.distance(router, prefix), far);
            }
            Check.due("own", net.own(prefix, NONE), 3 - prefix);
            Check.due("distance without an owner", net.distance(3 - prefix, prefix), NONE);
        }
    }
}
