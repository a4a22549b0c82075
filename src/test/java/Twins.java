/**
 * Two nets made by the same calls, of which one gets a call more that must change nothing: they are
 * compared by all that can be asked, then by what becomes of them when all messages come (which
 * shows their order, and the RELEASEs that are to come), and then by taking links, owners and
 * services away. Each net stays under the 512 calls that the document promises anything for.
 */
final class Twins {
    interface Calls {
        void on(LabelRoads net);
    }

    private Twins() {
    }

    static void staySame(String name, int size, Calls made, Calls more) {
        LabelRoads plain = new LabelRoads(size);
        LabelRoads tried = new LabelRoads(size);
        made.on(plain);
        made.on(tried);
        more.on(tried);
        same(name, State.of(plain, size), State.of(tried, size));
        same(name + ", messages", comeAll(plain, size), comeAll(tried, size));
        same(name + ", at rest", State.of(plain, size), State.of(tried, size));
        same(name + ", taken apart", takeApart(plain, size), takeApart(tried, size));
    }

    private static void same(String name, String due, String got) {
        if (!got.equals(due)) {
            Check.fail("after " + name + " the net is\n" + got + "\ndue is\n" + due);
        }
    }

    /** How many messages are on their way after each group of them: a few, then all. */
    private static String comeAll(LabelRoads net, int size) {
        StringBuilder text = new StringBuilder();
        for (int i = 0; i < 20; i++) {
            text.append(net.run(1)).append(' ').append(net.waiting()).append(' ');
            text.append(net.taken(i % size)).append(' ');
        }
        for (int i = 0; i < 4; i++) {
            text.append(net.run(400)).append(' ').append(net.lost()).append(' ');
        }
        return text.toString();
    }

    private static String takeApart(LabelRoads net, int size) {
        StringBuilder text = new StringBuilder();
        for (int i = 0; i < 4; i++) {
            text.append(net.own(i, LabelRoads.NONE)).append(' ');
            text.append(net.serve(i, LabelRoads.NONE)).append(' ');
        }
        for (int a = 0; a < size; a++) {
            for (int b = a + 1; b < size; b++) {
                text.append(net.link(a, b, 0)).append(' ');
            }
        }
        return text.append(net.waiting()).toString();
    }
}
