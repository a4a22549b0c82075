import java.util.List;
import java.util.Random;

/**
 * Runs of 512 calls, the same ones each time, on LabelRoads and on PlainModel: changes, questions
 * and refused calls. No object gets more calls, since nothing is promised for those.
 */
public final class AgainstModelTest {
    private static final int RUNS = 3000;
    private static final int CALLS = 512;

    private final Random random;
    private final LabelRoads net;
    private final PlainModel model;
    private final int size;
    private final int messageShare;
    private final String name;
    private int calls;

    private static final int[] FATES = new int[5];
    private static int refusedCalls = 0;
    private static int withAllTaken = 0;

    private AgainstModelTest(int seed) {
        random = new Random(seed);
        int n = 1 + random.nextInt(7);
        // Some runs let few messages come, so that labels run out and messages are lost.
        messageShare = random.nextInt(6);
        net = new LabelRoads(n);
        model = new PlainModel(n);
        size = model.size;
        name = "run " + seed + ", call ";
    }

    public static void main(String[] args) {
        int withLost = 0;
        for (int seed = 0; seed < RUNS; seed++) {
            AgainstModelTest test = new AgainstModelTest(seed);
            test.goThrough();
            withLost += test.model.lost > 0 ? 1 : 0;
        }
        if (withLost < 100 || withAllTaken < 1000 || refusedCalls < 1000) {
            Check.fail("too few reach the limits: " + withLost + " runs with lost messages, "
                    + withAllTaken + " answers with all labels taken, " + refusedCalls + " refused");
        }
        for (int fate = 0; fate < 5; fate++) {
            if (FATES[fate] < 500) {
                Check.fail("too few packets with fate " + fate + ": " + FATES[fate]);
            }
        }
        Check.end();
    }

    /** More changes at first; the questions at the end are those about what all of them led to. */
    private void goThrough() {
        while (calls < CALLS) {
            if (random.nextInt(CALLS) < calls) {
                ask();
            } else if (random.nextInt(100) == 0) {
                tryRefused();
            } else {
                change();
            }
        }
    }

    private void due(String call, int got, int want) {
        Check.due(name + calls + " " + call, got, want);
        calls++;
    }

    private void tryRefused() {
        List<RefusedCalls.Refused> refused = RefusedCalls.of(size, model.places.size());
        refused.get(random.nextInt(refused.size())).tryOn(net);
        refusedCalls++;
        calls++;
    }

    private void change() {
        int kind = random.nextInt(12 + messageShare);
        int a = random.nextInt(size);
        int b = (a + 1 + random.nextInt(size - 1)) % size;
        int prefix = random.nextInt(4);
        int router = random.nextInt(4) == 0 ? -1 : a;
        if (kind < 3) {
            int cost = random.nextInt(5) == 0 ? 0 : 1 + random.nextInt(random.nextBoolean() ? 3 : 15);
            due("link(" + a + ", " + b + ", " + cost + ")", net.link(a, b, cost), model.link(a, b, cost));
        } else if (kind < 7) {
            due("own(" + prefix + ", " + router + ")",
                    net.own(prefix, router), model.own(prefix, router));
        } else if (kind < 8) {
            due("serve(" + prefix + ", " + router + ")",
                    net.serve(prefix, router), model.serve(prefix, router));
        } else if (kind < 10) {
            send(a, prefix);
        } else if (kind < 15) {
            due("step(" + a + ", " + b + ")", net.step(a, b), model.step(a, b));
        } else {
            int n = random.nextInt(8) == 0 ? 400 : random.nextInt(6);
            due("run(" + n + ")", net.run(n), model.run(n));
        }
    }

    private void send(int router, int prefix) {
        int service = random.nextInt(5) - 1;
        int ttl = random.nextInt(3) == 0 ? 1 + random.nextInt(255) : 1 + random.nextInt(6);
        int fate = model.send(router, prefix, service, ttl);
        due("send(" + router + ", " + prefix + ", " + service + ", " + ttl + ")",
                net.send(router, prefix, service, ttl), fate);
        FATES[fate]++;
        if (random.nextInt(4) == 0) {
            askForHops();
        }
    }

    private void askForHops() {
        if (calls + 1 + 2 * model.places.size() > CALLS) {
            return;
        }
        due("hops()", net.hops(), model.places.size());
        for (int i = 0; i < model.places.size(); i++) {
            due("hop(" + i + ")", net.hop(i), model.places.get(i));
            due("entry(" + i + ")", net.entry(i), model.tops.get(i));
        }
    }

    private void ask() {
        int r = random.nextInt(size);
        int other = (r + 1 + random.nextInt(size - 1)) % size;
        int p = random.nextInt(4);
        String args = "(" + r + ", " + p + ")";
        switch (random.nextInt(8)) {
            case 0:
                due("waiting()", net.waiting(), model.mail.size());
                break;
            case 1:
                due("lost()", net.lost(), model.lost);
                break;
            case 2:
                askForHops();
                break;
            case 3:
                due("distance" + args, net.distance(r, p), model.distance(r, p));
                break;
            case 4:
                due("next" + args, net.next(r, p), model.next(r, p));
                break;
            case 5:
                due("label" + args, net.label(r, p), model.label(r, p));
                break;
            case 6:
                due("told(" + r + ", " + other + ", " + p + ")",
                        net.told(r, other, p), model.told(r, other, p));
                break;
            default:
                due("taken(" + r + ")", net.taken(r), model.taken(r));
                withAllTaken += model.taken(r) == 8 ? 1 : 0;
                break;
        }
    }
}
