/** Promise 7: waiting. */
public final class Promise07WaitingTest {
    public static void main(String[] args) {
        LabelRoads net = Nets.line(3);
        Check.due("waiting() without labels", net.waiting(), 0);
        net.own(0, 1);
        Check.due("waiting(), MAP to 0 and 2", net.waiting(), 2);
        net.step(1, 0);
        Check.due("waiting(), 0 told 1", net.waiting(), 2);
        net.step(0, 1);
        Check.due("waiting(), 1 had told all", net.waiting(), 1);
        net.own(0, LabelRoads.NONE);
        Check.due("waiting(), WITHDRAWs of 0 and 1", net.waiting(), 4);
        net.link(1, 2, 0);
        Check.due("waiting(), those on a link went with it", net.waiting(), 2);
        net.step(0, 1);
        Check.due("waiting(), RELEASE for WITHDRAW", net.waiting(), 2);
        net.run(400);
        Check.due("waiting() at rest", net.waiting(), 0);
        never240isPassed();
        Check.end();
    }

    private static void never240isPassed() {
        LabelRoads net = Nets.full(6);
        net.own(0, 0);
        Nets.rest(net);
        Nets.fill(net);
        net.own(2, 0);
        Check.due("waiting()", net.waiting(), 240);
        net.run(1);
        Check.due("waiting(), one came and none was sent", net.waiting(), 239);
    }
}
