/** Promise 6: run. */
public final class Promise06RunTest {
    public static void main(String[] args) {
        theOldestComesWhereverItGoes();
        thoseSentMeanwhileComeToo();
        countsWhatCame();
        doesWhatStepsDo();
        wrongNumbers();
        Check.end();
    }

    private static void theOldestComesWhereverItGoes() {
        LabelRoads net = Nets.line(4);
        net.own(0, 3);
        net.own(1, 0);
        net.own(2, 2);
        Check.due("waiting()", net.waiting(), 4);
        net.run(1);
        Check.due("told(2, 3, 0)", net.told(2, 3, 0), 16);
        Check.due("told(1, 0, 1)", net.told(1, 0, 1), 0);
        net.run(1);
        Check.due("told(1, 0, 1)", net.told(1, 0, 1), 16);
        Check.due("told(1, 2, 2)", net.told(1, 2, 2), 0);
        net.run(1);
        Check.due("told(1, 2, 2)", net.told(1, 2, 2), 16);
        Check.due("told(3, 2, 2)", net.told(3, 2, 2), 0);
        net.run(1);
        Check.due("told(3, 2, 2)", net.told(3, 2, 2), 16);
        Check.due("told(1, 2, 0), sent meanwhile", net.told(1, 2, 0), 0);
        net.run(1);
        Check.due("told(1, 2, 0), the next one", net.told(1, 2, 0), 17);
    }

    /** In a line of n each router but the ends tells two: 2n - 2 messages come of one owner. */
    private static void thoseSentMeanwhileComeToo() {
        for (int n = 2; n <= 6; n++) {
            LabelRoads net = Nets.line(n);
            net.own(0, 0);
            Check.due("waiting()", net.waiting(), 1);
            Check.due("run(400)", net.run(400), 2 * n - 2);
            Check.due("waiting()", net.waiting(), 0);
            Check.due("label(last)", net.label(n - 1, 0), 16);
        }
    }

    private static void countsWhatCame() {
        LabelRoads net = Nets.line(4);
        net.own(0, 0);
        Check.due("run(0)", net.run(0), 0);
        Check.due("waiting()", net.waiting(), 1);
        Check.due("run(1)", net.run(1), 1);
        Check.due("waiting()", net.waiting(), 2);
        Check.due("run(2)", net.run(2), 2);
        Check.due("run(4)", net.run(4), 3);
        Check.due("run(400)", net.run(400), 0);
    }

    /** A step takes one out of the middle; the rest keep their order. */
    private static void doesWhatStepsDo() {
        LabelRoads net = Nets.full(4);
        net.own(0, 0);
        Check.due("step(0, 2)", net.step(0, 2), 1);
        net.run(1);
        Check.due("told(1, 0, 0)", net.told(1, 0, 0), 16);
        Check.due("told(3, 0, 0)", net.told(3, 0, 0), 0);
        net.run(1);
        Check.due("told(3, 0, 0)", net.told(3, 0, 0), 16);
        Check.due("told(0, 2, 0)", net.told(0, 2, 0), 0);
        net.run(1);
        Check.due("told(0, 2, 0)", net.told(0, 2, 0), 16);
    }

    private static void wrongNumbers() {
        LabelRoads net = Nets.line(2);
        net.own(0, 0);
        for (int wrong : new int[] {-1, 401, Integer.MIN_VALUE, Integer.MAX_VALUE}) {
            Check.illegal("run(" + wrong + ")", () -> net.run(wrong));
        }
        Check.due("waiting()", net.waiting(), 1);
    }
}
