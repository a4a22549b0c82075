import java.util.ArrayDeque;
import java.util.ArrayList;
import java.util.Deque;
import java.util.HashSet;
import java.util.Iterator;
import java.util.List;
import java.util.Map;
import java.util.Set;
import java.util.TreeMap;

/**
 * The document's terms once more, word for word and without care for speed or room, to compare
 * LabelRoads with. Ways are found by trying all of them; arguments are taken to be right.
 */
final class PlainModel {
    static final int NONE = -1;

    record Message(int kind, int from, int to, int prefix, int label) {
    }

    /** A RELEASE that is to come to a router from another one for a label. */
    record Awaited(int router, int from, int label) {
    }

    record Told(int router, int other, int prefix) {
    }

    record Held(int router, int prefix) {
    }

    final int size;
    final int[][] cost;
    final Map<Integer, Integer> owner = new TreeMap<>();
    final Map<Integer, Integer> service = new TreeMap<>();
    final Map<Held, Integer> labels = new java.util.HashMap<>();
    final Map<Told, Integer> told = new java.util.HashMap<>();
    final Set<Awaited> awaited = new HashSet<>();
    final List<Message> mail = new ArrayList<>();
    final List<Integer> places = new ArrayList<>();
    final List<Integer> tops = new ArrayList<>();
    int lost = 0;

    PlainModel(int n) {
        size = n < 2 ? 2 : n > 6 ? 6 : n;
        cost = new int[size][size];
    }

    int link(int a, int b, int c) {
        int was = cost[a][b];
        if (was == c) {
            return was;
        }
        cost[a][b] = c;
        cost[b][a] = c;
        if (c == 0) {
            mail.removeIf(m -> m.from == a && m.to == b || m.from == b && m.to == a);
            told.keySet().removeIf(t -> t.router == a && t.other == b || t.router == b && t.other == a);
            awaited.removeIf(r -> r.router == a && r.from == b || r.router == b && r.from == a);
        }
        if (was == 0) {
            int low = a < b ? a : b;
            int high = a < b ? b : a;
            for (int p = 0; p < 4; p++) {
                if (label(low, p) != 0) {
                    post(new Message(1, low, high, p, label(low, p)));
                }
            }
            for (int p = 0; p < 4; p++) {
                if (label(high, p) != 0) {
                    post(new Message(1, high, low, p, label(high, p)));
                }
            }
        }
        settleAll();
        return was;
    }

    int own(int prefix, int router) {
        int was = owner.getOrDefault(prefix, NONE);
        if (was != router) {
            owner.put(prefix, router);
            settleAll();
        }
        return was;
    }

    int serve(int s, int router) {
        int was = service.getOrDefault(s, NONE);
        service.put(s, router);
        return was;
    }

    int step(int from, int to) {
        Iterator<Message> it = mail.iterator();
        while (it.hasNext()) {
            Message m = it.next();
            if (m.from == from && m.to == to) {
                it.remove();
                come(m);
                return m.kind;
            }
        }
        return 0;
    }

    int run(int n) {
        int i = 0;
        for (; i < n && !mail.isEmpty(); i++) {
            come(mail.remove(0));
        }
        return i;
    }

    int distance(int router, int prefix) {
        int to = owner.getOrDefault(prefix, NONE);
        return to == NONE ? NONE : leastSum(router, to, new boolean[size]);
    }

    /** The least sum over all ways that come to no router twice; NONE without one. */
    private int leastSum(int at, int to, boolean[] been) {
        if (at == to) {
            return 0;
        }
        been[at] = true;
        int least = NONE;
        for (int other = 0; other < size; other++) {
            if (cost[at][other] > 0 && !been[other]) {
                int rest = leastSum(other, to, been);
                if (rest != NONE && (least == NONE || rest + cost[at][other] < least)) {
                    least = rest + cost[at][other];
                }
            }
        }
        been[at] = false;
        return least;
    }

    int next(int router, int prefix) {
        int all = distance(router, prefix);
        if (all == NONE || owner.get(prefix) == router) {
            return NONE;
        }
        for (int other = 0; other < size; other++) {
            int rest = distance(other, prefix);
            if (cost[router][other] > 0 && rest != NONE && rest + cost[router][other] == all) {
                return other;
            }
        }
        throw new AssertionError("a way without a beginning");
    }

    int label(int router, int prefix) {
        return labels.getOrDefault(new Held(router, prefix), 0);
    }

    int told(int router, int other, int prefix) {
        return told.getOrDefault(new Told(router, other, prefix), 0);
    }

    int taken(int router) {
        return takenOnes(router).size();
    }

    private Set<Integer> takenOnes(int router) {
        Set<Integer> ones = new HashSet<>();
        for (int p = 0; p < 4; p++) {
            if (label(router, p) != 0) {
                ones.add(label(router, p));
            }
        }
        for (Awaited a : awaited) {
            if (a.router == router) {
                ones.add(a.label);
            }
        }
        return ones;
    }

    private void post(Message m) {
        if (mail.size() == 240) {
            lost++;
        } else {
            mail.add(m);
        }
    }

    private void settleAll() {
        for (int r = 0; r < size; r++) {
            for (int p = 0; p < 4; p++) {
                settle(r, p);
            }
        }
    }

    private void settle(int router, int prefix) {
        boolean owns = owner.getOrDefault(prefix, NONE) == router;
        int next = next(router, prefix);
        boolean ready = owns || next != NONE && told(router, next, prefix) != 0;
        int has = label(router, prefix);
        if (ready && has == 0) {
            Set<Integer> takenOnes = takenOnes(router);
            for (int l = 16; l <= 23; l++) {
                if (!takenOnes.contains(l)) {
                    labels.put(new Held(router, prefix), l);
                    for (int other = 0; other < size; other++) {
                        if (cost[router][other] > 0) {
                            post(new Message(1, router, other, prefix, l));
                        }
                    }
                    return;
                }
            }
        }
        if (!ready && has != 0) {
            for (int other = 0; other < size; other++) {
                if (cost[router][other] > 0) {
                    post(new Message(2, router, other, prefix, has));
                    awaited.add(new Awaited(router, other, has));
                }
            }
            labels.remove(new Held(router, prefix));
        }
    }

    private void come(Message m) {
        Told key = new Told(m.to, m.from, m.prefix);
        if (m.kind == 1) {
            told.put(key, m.label);
            settle(m.to, m.prefix);
        } else if (m.kind == 2) {
            told.remove(key, m.label);
            post(new Message(3, m.to, m.from, m.prefix, m.label));
            settle(m.to, m.prefix);
        } else {
            awaited.remove(new Awaited(m.to, m.from, m.label));
            for (int p = 0; p < 4; p++) {
                settle(m.to, p);
            }
        }
    }

    int send(int router, int prefix, int s, int ttl) {
        places.clear();
        tops.clear();
        Deque<Integer> stack = new ArrayDeque<>();
        if (s != NONE) {
            stack.push(4096 * (32 + s) + 256 + ttl);
        }
        int at = router;
        int left = ttl;
        boolean arrived = true;
        boolean begins = true;
        while (true) {
            if (arrived) {
                places.add(at);
                tops.add(stack.isEmpty() ? 0 : stack.peek());
                arrived = false;
            }
            int top = stack.isEmpty() ? 0 : stack.peek() / 4096;
            int along = prefix;
            boolean must = false;
            if (begins && s != NONE) {
                must = true;
                if (owner.getOrDefault(prefix, NONE) == at) {
                    return service.getOrDefault(s, NONE) == at ? 0 : 3;
                }
            } else if (top >= 16 && top <= 31) {
                along = prefixWith(at, top);
                must = true;
                if (along == NONE) {
                    return 3;
                }
                if (owner.getOrDefault(along, NONE) == at) {
                    stack.pop();
                    continue;
                }
                stack.pop();
            } else if (top != 0) {
                return service.getOrDefault(top - 32, NONE) == at ? 0 : 3;
            } else if (owner.getOrDefault(prefix, NONE) == at) {
                return 0;
            }
            int next = next(at, along);
            if (next == NONE) {
                return 1;
            }
            int l = told(at, next, along);
            if (must && l == 0) {
                return 4;
            }
            left--;
            if (left == 0) {
                return 2;
            }
            if (l != 0) {
                stack.push(4096 * l + (stack.isEmpty() ? 256 : 0) + left);
            }
            at = next;
            arrived = true;
            begins = false;
        }
    }

    private int prefixWith(int router, int label) {
        for (int p = 0; p < 4; p++) {
            if (label(router, p) == label) {
                return p;
            }
        }
        return NONE;
    }
}
