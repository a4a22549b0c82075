import java.util.Random;

/** Long runs of calls, the same ones each time, on LabelRoads and on PlainModel. */
public final class AgainstModelTest {
    private static final int RUNS = 400;
    private static final int CALLS = 512;

    private final Random random;
    private final LabelRoads net;
    private final PlainModel model;
    private final int size;
    private final int messageShare;
    private final String name;

    private AgainstModelTest(int seed) {
        random = new Random(seed);
        int n = 1 + random.nextInt(7);
        // Some runs let few messages come, so that labels run out and messages are lost.
        messageShare = random.nextInt(6);
        net = new LabelRoads(n);
        model = new PlainModel(n);
        size = model.size;
        name = "run " + seed + ", call ";
    }

    public static void main(String[] args) {
        int withLost = 0;
        int withAllTaken = 0;
        int[] fates = new int[5];
        for (int seed = 0; seed < RUNS; seed++) {
            AgainstModelTest test = new AgainstModelTest(seed);
            boolean allTaken = false;
            for (int call = 0; call < CALLS; call++) {
                int fate = test.change(test.name + call);
                if (fate >= 0) {
                    fates[fate]++;
                }
                if (call % 8 == 0 || fate >= 0) {
                    allTaken |= test.look(test.name + call);
                }
            }
            withLost += test.model.lost > 0 ? 1 : 0;
            withAllTaken += allTaken ? 1 : 0;
        }
        if (withLost < 10 || withAllTaken < 10) {
            Check.fail("too few runs reach the limits: " + withLost + ", " + withAllTaken);
        }
        for (int fate = 0; fate < 5; fate++) {
            if (fates[fate] < 50) {
                Check.fail("too few packets with fate " + fate + ": " + fates[fate]);
            }
        }
        Check.end();
    }

    /** One call that may change something; the fate of a packet if it was send, else -1. */
    private int change(String at) {
        int kind = random.nextInt(12 + messageShare);
        int a = random.nextInt(size);
        int b = (a + 1 + random.nextInt(size - 1)) % size;
        int prefix = random.nextInt(4);
        int router = random.nextInt(4) == 0 ? -1 : a;
        if (kind < 3) {
            int cost = random.nextInt(5) == 0 ? 0 : 1 + random.nextInt(random.nextBoolean() ? 3 : 15);
            Check.due(at + " link(" + a + ", " + b + ", " + cost + ")",
                    net.link(a, b, cost), model.link(a, b, cost));
        } else if (kind < 7) {
            Check.due(at + " own(" + prefix + ", " + router + ")",
                    net.own(prefix, router), model.own(prefix, router));
        } else if (kind < 8) {
            Check.due(at + " serve(" + prefix + ", " + router + ")",
                    net.serve(prefix, router), model.serve(prefix, router));
        } else if (kind < 10) {
            int service = random.nextInt(5) - 1;
            int ttl = random.nextInt(3) == 0 ? 1 + random.nextInt(255) : 1 + random.nextInt(6);
            int fate = model.send(a, prefix, service, ttl);
            Check.due(at + " send(" + a + ", " + prefix + ", " + service + ", " + ttl + ")",
                    net.send(a, prefix, service, ttl), fate);
            return fate;
        } else if (kind < 15) {
            Check.due(at + " step(" + a + ", " + b + ")", net.step(a, b), model.step(a, b));
        } else {
            int n = random.nextInt(8) == 0 ? 400 : random.nextInt(6);
            Check.due(at + " run(" + n + ")", net.run(n), model.run(n));
        }
        return -1;
    }

    /** Compares all that can be asked; whether a router has no label left. */
    private boolean look(String at) {
        boolean allTaken = false;
        Check.due(at + " waiting()", net.waiting(), model.mail.size());
        Check.due(at + " lost()", net.lost(), model.lost);
        Check.due(at + " hops()", net.hops(), model.places.size());
        for (int i = 0; i < Math.min(net.hops(), model.places.size()); i++) {
            Check.due(at + " hop(" + i + ")", net.hop(i), model.places.get(i));
            Check.due(at + " entry(" + i + ")", net.entry(i), model.tops.get(i));
        }
        for (int r = 0; r < size; r++) {
            Check.due(at + " taken(" + r + ")", net.taken(r), model.taken(r));
            allTaken |= model.taken(r) == 8;
            for (int p = 0; p < 4; p++) {
                String args = "(" + r + ", " + p + ")";
                Check.due(at + " distance" + args, net.distance(r, p), model.distance(r, p));
                Check.due(at + " next" + args, net.next(r, p), model.next(r, p));
                Check.due(at + " label" + args, net.label(r, p), model.label(r, p));
                for (int other = 0; other < size; other++) {
                    if (other != r) {
                        Check.due(at + " told(" + r + ", " + other + ", " + p + ")",
                                net.told(r, other, p), model.told(r, other, p));
                    }
                }
            }
        }
        return allTaken;
    }
}
