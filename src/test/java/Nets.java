/** Makes objects that have read a configuration. */
final class Nets {
    /** Three nodes; the way from a to c over b is cheaper, the link 2 leads there at once. */
    static final String TRIANGLE =
        "node a;node b;node c;link a b 10 2 3;link b c 8 1 2;link a c 5 9 4";
    static final int A = 0;
    static final int B = 1;
    static final int C = 2;

    private Nets() {
    }

    static PathReservations net(String text) {
        PathReservations net = new PathReservations();
        if (load(net, text) < 0) {
            throw new IllegalStateException("this text has an error: " + text);
        }
        return net;
    }

    static PathReservations triangle() {
        return net(TRIANGLE);
    }

    /** Nine requests, of all states, eight tickets, of all states, and two links that are down; at 11. */
    static PathReservations rich() {
        PathReservations rich = net("hold 9;retry 6;cancel 70;" + TRIANGLE + ";link b a 3 4 1");
        rich.setSetting(3, 40);
        rich.setCapacity(1, 9);
        rich.request(2, 0, 1, 1);
        rich.request(1, 2, 1, 1);
        rich.cancel(rich.request(0, 1, 1, 1));
        rich.request(0, 1, 1, 40);
        rich.request(1, 0, 1, 40);
        rich.setSetting(0, 1);
        rich.request(0, 1, 1, 40);
        rich.setSetting(0, 9);
        rich.advance(6);
        rich.takeDown(2);
        rich.takeDown(3);
        rich.request(0, 2, 6, 10);
        rich.advance(5);
        rich.request(0, 2, 3, 9);
        rich.request(0, 2, 9, 8);
        return rich;
    }

    static int load(PathReservations net, String text) {
        write(net, text);
        return net.load();
    }

    /** Answers the length of the buffer. */
    static int write(PathReservations net, String text) {
        int length = net.append(0);
        for (int at = 0; at < text.length(); at += 8) {
            long bytes = 0;
            for (int i = at; i < at + 8 && i < text.length(); i++) {
                bytes = bytes << 8 | text.charAt(i);
            }
            length = net.append(bytes);
        }
        return length;
    }

    static int nodeNamed(PathReservations net, String name) {
        write(net, name);
        return net.nodeNamed();
    }

    static String nodes(int number) {
        StringBuilder text = new StringBuilder();
        for (int i = 0; i < number; i++) {
            text.append(i > 0 ? ";" : "").append("node ").append((char) ('a' + i));
        }
        return text.toString();
    }

    /** Nodes one behind the other, each with a link to the next one. */
    static String line(int nodes, String link) {
        StringBuilder text = new StringBuilder(nodes(nodes));
        for (int i = 0; i + 1 < nodes; i++) {
            text.append(";link ").append((char) ('a' + i)).append(' ').append((char) ('b' + i));
            text.append(' ').append(link);
        }
        return text.toString();
    }

    /** Most of what can be asked about the time, the links, the requests and the tickets; some 100 calls. */
    static String state(PathReservations net) {
        StringBuilder text = new StringBuilder();
        int links = net.linkCount();
        int requests = net.requestCount();
        int tickets = net.ticketCount();
        text.append(net.time()).append(' ').append(net.revenue()).append(' ').append(net.refunds());
        for (int i = 0; i < 5; i++) {
            text.append(' ').append(net.setting(i));
        }
        for (int k = 0; k < links; k++) {
            for (int what = 2; what <= 8; what++) {
                text.append(what == 2 ? " / " : " ").append(net.linkValue(k, what));
            }
        }
        for (int r = 0; r < requests; r++) {
            for (int what = 4; what <= 12; what++) {
                text.append(what == 4 ? " / " : " ").append(net.requestValue(r, what));
            }
            text.append(' ').append(net.placeOf(r)).append(' ').append(net.pathLength(r));
        }
        for (int t = 0; t < tickets; t++) {
            for (int what = 4; what <= 7; what++) {
                text.append(what == 4 ? " / " : " ").append(net.ticketValue(t, what));
            }
        }
        return text.toString();
    }

    /** All that state() leaves out, too: names, ends of links, paths; some 300 calls for nine requests. */
    static String everything(PathReservations net) {
        StringBuilder text = new StringBuilder();
        int nodes = net.nodeCount();
        for (int node = 0; node < nodes; node++) {
            int letter = net.nameLetter(node, 0);
            text.append(' ');
            for (int i = 1; letter >= 0; i++) {
                text.append((char) letter);
                letter = net.nameLetter(node, i);
            }
        }
        int links = net.linkCount();
        for (int k = 0; k < links; k++) {
            text.append(" / ").append(net.linkValue(k, 0)).append(' ').append(net.linkValue(k, 1));
        }
        int requests = net.requestCount();
        for (int r = 0; r < requests; r++) {
            for (int what = 0; what < 4; what++) {
                text.append(what == 0 ? " / " : " ").append(net.requestValue(r, what));
            }
            int link = net.pathLink(r, 0);
            for (int i = 1; link >= 0; i++) {
                text.append(i == 1 ? " path " : " ").append(link);
                link = net.pathLink(r, i);
            }
        }
        int tickets = net.ticketCount();
        for (int t = 0; t < tickets; t++) {
            for (int what = 0; what < 4; what++) {
                text.append(what == 0 ? " / " : " ").append(net.ticketValue(t, what));
            }
        }
        return text.append(" / ").append(state(net)).toString();
    }
}
