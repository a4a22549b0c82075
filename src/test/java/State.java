/** All that can be asked of a net without changing it, as one text; some 70 calls for 3 routers. */
final class State {
    private State() {
    }

    static String of(LabelRoads net, int size) {
        StringBuilder text = new StringBuilder();
        text.append("waiting ").append(net.waiting()).append(" lost ").append(net.lost());
        text.append(" packet");
        for (int i = 0; i < net.hops(); i++) {
            text.append(' ').append(net.hop(i)).append(':').append(net.entry(i));
        }
        for (int router = 0; router < size; router++) {
            text.append("\n router ").append(router).append(" taken ").append(net.taken(router));
            for (int prefix = 0; prefix < 4; prefix++) {
                text.append(" (").append(net.distance(router, prefix));
                text.append(' ').append(net.next(router, prefix));
                text.append(' ').append(net.label(router, prefix));
                for (int other = 0; other < size; other++) {
                    if (other != router) {
                        text.append(' ').append(net.told(router, other, prefix));
                    }
                }
                text.append(')');
            }
        }
        return text.toString();
    }
}
