/** Promises 1 to 14: a new object, texts, and what can be asked and changed about the network. */
public final class NetworkTest {
    private static final Checks CHECKS = new Checks("NetworkTest");

    private NetworkTest() {
    }

    public static void main(String[] args) {
        newObject();
        append();
        loadAnswers();
        loadNumbers();
        loadLinks();
        loadLimits();
        loadBeginsAnew();
        loadError();
        nodeNamed();
        counts();
        nameLetter();
        linkValue();
        setting();
        setSetting();
        setSettingFromNowOn();
        setCapacity();
        takeDown();
        takeDownManyRequests();
        bringUp();
        CHECKS.end();
    }

    /** Promise 1. */
    private static void newObject() {
        PathReservations net = new PathReservations();
        CHECKS.equal("new: nodes", net.nodeCount(), 0);
        CHECKS.equal("new: links", net.linkCount(), 0);
        CHECKS.equal("new: time", net.time(), 0);
        int[] settings = {20, 5, 3, 50, 80};
        for (int what = 0; what < settings.length; what++) {
            CHECKS.equal("new: setting " + what, net.setting(what), settings[what]);
        }
        CHECKS.equal("new: requests", net.requestCount(), 0);
        CHECKS.equal("new: tickets", net.ticketCount(), 0);
        CHECKS.equal("new: next event", net.nextEvent(), -1);
        CHECKS.equal("new: no error", net.loadError(), 0);
        CHECKS.equal("new: slot 0", net.restoreSnapshot(0), -1);
        CHECKS.equal("new: slot 1", net.restoreSnapshot(1), -1);
        CHECKS.equal("new: empty buffer", net.append(0), 0);
        CHECKS.equal("new: an empty name", net.nodeNamed(), -1);
        CHECKS.index("new: no node", () -> net.nameLetter(0, 0));
        CHECKS.index("new: no link", () -> net.linkValue(0, 0));
        CHECKS.index("new: no nodes for a request", () -> net.request(0, 1, 1, 1));
        CHECKS.equal("new: time passes", net.advance(7), 7);
    }

    /** Promise 2. */
    private static void append() {
        PathReservations net = new PathReservations();
        CHECKS.equal("zero bytes are left out", net.append(0x6e6f000065006400L), 4);
        CHECKS.equal("no bytes", net.append(0), 4);
        CHECKS.equal("the rest", net.append(' ' << 8 | 'x'), 6);
        CHECKS.equal("the letters come most significant first: 'noed x'", net.load(), -100);
        net.append(0x6e6f646500000000L);
        net.append(0x0000000000002078L);
        CHECKS.equal("node x", net.load(), 0);
        CHECKS.equal("the node is there", Nets.nodeNamed(net, "x"), 0);
        CHECKS.equal("eight bytes", net.append(-1L), 8);
        CHECKS.equal("the first byte alone", net.append(0xff00000000000000L), 9);
        CHECKS.equal("the last byte alone", net.append(0x80L), 10);
        net.nodeNamed();
        CHECKS.equal("696 bytes", Nets.write(net, " ".repeat(696)), 696);
        CHECKS.equal("5 more are too many", net.append(0x2020202020L), -2);
        CHECKS.equal("none of them was taken", net.append(0), 696);
        CHECKS.equal("4 more", net.append(0x2000200020002000L), 700);
        CHECKS.equal("1 more is too many", net.append(1), -2);
        CHECKS.equal("no more is not", net.append(0), 700);
        CHECKS.equal("it held 700 spaces", net.load(), -800);
        CHECKS.equal("an error left it empty", net.append(32), 1);
        net.nodeNamed();
        CHECKS.equal("692 bytes", Nets.write(net, " ".repeat(692)), 692);
        CHECKS.equal("8 more", net.append(0x2020202020202020L), 700);
    }

    private static void text(String text, int answer, int error) {
        PathReservations net = new PathReservations();
        CHECKS.equal("load '" + text + "'", Nets.load(net, text), answer);
        CHECKS.equal("error of '" + text + "'", net.loadError(), error);
        CHECKS.equal("buffer after '" + text + "'", net.append(0), 0);
    }

    /** Promise 3, section 2: words and their places. */
    private static void loadAnswers() {
        text("node a", 0, 0);
        text("  node   a  ;  node b ;link a b 5 6 7  ", 1, 0);
        text("node node;node link;link node link 1 1 1", 1, 0);
        text("", -100, 1);
        text("   ", -103, 1);
        text("node", -104, 1);
        text("node ", -105, 1);
        text("node a;", -107, 1);
        text("node a; ", -108, 1);
        text(";node a", -100, 1);
        text(" ;node a", -101, 1);
        text("node a;;node b", -107, 1);
        text("node a node b", -107, 1);
        text("node a b", -107, 1);
        text("node a 7", -107, 1);
        text("node 5", -105, 1);
        text("node  ;", -106, 1);
        text("node a5", -106, 1);
        text("node aB", -106, 1);
        text("node A", -105, 1);
        text("Node a", -100, 1);
        text("nodea", -100, 1);
        text("nodes a", -100, 1);
        text("nod a", -100, 1);
        text("5", -100, 1);
        text("abcdefghi", -100, 1);
        text("node a\t", -106, 1);
        text("node a\n;node b", -106, 1);
        text("node\u00a0a", -104, 1);
        text("node {", -105, 1);
        text("node `", -105, 1);
        text("\u0001", -100, 1);
        text("\u00ff", -100, 1);
        text("node abcdef", 0, 0);
        text("node abcdefg", -105, 3);
        text("node abcdefghijklmnop", -105, 3);
        text("node abcdefG", -111, 1);
        text("node azazaz", 0, 0);
        text("node a;node a", -112, 3);
        text("node ab;node a;node ab", -120, 3);
        text("node a;node b;node a;hold 0", -119, 3);
        text("hold 501;node", -105, 2);
        text("node;hold 501", -104, 1);
    }

    /** Promise 3, section 2: numbers. */
    private static void loadNumbers() {
        String[] names = {"hold", "retry", "tries", "expire", "cancel"};
        int[] least = {1, 1, 1, 0, 0};
        int[] greatest = {500, 100, 9, 100, 100};
        for (int what = 0; what < names.length; what++) {
            String name = names[what];
            int place = -100 - name.length() - 1;
            for (int value : new int[] {least[what], least[what] + 1, greatest[what] - 1, greatest[what]}) {
                CHECKS.equal(name + " " + value, Nets.net(name + " " + value).setting(what), value);
                CHECKS.equal(name + value, Nets.net(name + "000" + value).setting(what), value);
            }
            text(name + " " + (greatest[what] + 1), place, 2);
            text(name + " 4294967297", place, 2);
            text(name + " 18446744073709551617", place, 2);
            text(name + " 99999999999999999999999999999999999999999", place, 2);
            text(name + " -1", place, 1);
            text(name + " x", place, 1);
            text(name + ";", place + 1, 1);
            text(name, place + 1, 1);
            text(name + " 1 1", place - 2, 1);
            text(name + " 1x", place - 1, 1);
            text(name + " 1.5", place - 1, 1);
            text(name + " /", place, 1);
            text(name + " :", place, 1);
            text(name + "s 1", -100, 1);
        }
        text("hold 0", -105, 2);
        text("retry 0", -106, 2);
        text("tries  0", -107, 2);
        text("hold 5;hold 0", -112, 2);
        CHECKS.equal("the last one counts", Nets.net("hold 5;tries 2;hold 6").setting(0), 6);
        CHECKS.equal("the others stay", Nets.net("hold 5;tries 2;hold 6").setting(2), 2);
        CHECKS.equal("no statement", Nets.net("hold 5;tries 2;hold 6").setting(1), 5);
    }

    /** Promise 3, section 2: links. */
    private static void loadLinks() {
        String nodes = "node a;node b;";
        text(nodes + "link a b 0 0 1", 1, 0);
        text(nodes + "link a b 1000 1000 50;link a b 1 1 1;link b a 1 1 1", 3, 0);
        text(nodes + "link a b0 0 1", 1, 0);
        text(nodes + "link a b 1001 0 1", -123, 2);
        text(nodes + "link a b 0 1001 1", -125, 2);
        text(nodes + "link a b 0 0 0", -127, 2);
        text(nodes + "link a b 0 0 51", -127, 2);
        text(nodes + "link a b 1001 0", -123, 2);
        text(nodes + "link a a 0 0 1", -121, 3);
        text(nodes + "link a a 1001 0 1", -121, 3);
        text(nodes + "link c a 0 0 1", -119, 3);
        text(nodes + "link c c 0 0 1", -119, 3);
        text(nodes + "link a c 0 0 1", -121, 3);
        text(nodes + "link abcdefg a 0 0 1", -119, 3);
        text(nodes + "link a abcdefg 0 0 1", -121, 3);
        text(nodes + "link", -118, 1);
        text(nodes + "link a", -120, 1);
        text(nodes + "link a b", -122, 1);
        text(nodes + "link a b 0 0", -126, 1);
        text(nodes + "link a b 0 0;", -126, 1);
        text(nodes + "link a 5 0 0 1", -121, 1);
        text(nodes + "link 5 a 0 0 1", -119, 1);
        text(nodes + "link a b c 0 1", -123, 1);
        text(nodes + "link a b 0 c 1", -125, 1);
        text(nodes + "link a b 0 0 c", -127, 1);
        text(nodes + "link a b 0 0 1 1", -129, 1);
        text(nodes + "linka b 0 0 1", -114, 1);
        text("link a b 0 0 1;node a;node b", -105, 3);
        text("node a;link a b 0 0 1;node b", -114, 3);
    }

    /** Promise 3, section 2: error 4. */
    private static void loadLimits() {
        String nodes = Nets.nodes(12);
        text(nodes, 0, 0);
        text(nodes + ";hold 7", 0, 0);
        text(nodes + "; node m", -100 - nodes.length() - 2, 4);
        text(nodes + ";node a", -100 - nodes.length() - 1, 4);
        text(nodes + ";node", -100 - nodes.length() - 1, 4);
        text(nodes + ";node 5", -100 - nodes.length() - 1, 4);
        String links = "node a;node b" + ";link a b 1 2 3".repeat(24);
        text(links, 24, 0);
        text(links + ";tries 4", 24, 0);
        text(links + ";  link a b 1 2 3", -100 - links.length() - 3, 4);
        text(links + ";link a a 1 2 3", -100 - links.length() - 1, 4);
        text(links + ";link", -100 - links.length() - 1, 4);
        String full = "node a;node b;link a b 1 2 3";
        text(full + " ".repeat(700 - full.length()), 1, 0);
    }

    /** Promise 3: what a call of load() changes. */
    private static void loadBeginsAnew() {
        PathReservations net = Nets.net("tries 5;" + Nets.TRIANGLE);
        net.request(Nets.A, Nets.C, 6, 10);
        net.request(Nets.A, Nets.C, 6, 10);
        net.setSetting(0, 77);
        net.setCapacity(2, 99);
        net.takeDown(2);
        net.advance(4);
        net.saveSnapshot(1);
        String before = Nets.state(net);
        CHECKS.equal("a text with an error", Nets.load(net, "node x;node y;hold 0"), -119);
        CHECKS.same("changes nothing", Nets.state(net), before);
        CHECKS.equal("not the nodes either", net.nodeCount(), 3);
        CHECKS.equal("nor their names", net.nameLetter(0, 0), 'a');
        CHECKS.equal("a text without errors", Nets.load(net, Nets.TRIANGLE), 3);
        CHECKS.same("begins anew", Nets.state(net), Nets.state(Nets.triangle()));
        CHECKS.equal("without requests", net.requestCount(), 0);
        CHECKS.equal("without tickets", net.ticketCount(), 0);
        CHECKS.equal("at time 0", net.time(), 0);
        CHECKS.equal("without the old numbers", net.setting(2), 3);
        CHECKS.equal("the snapshot stays", net.restoreSnapshot(1), 4);
        CHECKS.same("as it was", Nets.state(net), before);
        CHECKS.equal("a smaller network", Nets.load(net, "node z"), 0);
        CHECKS.equal("has no links", net.linkCount(), 0);
        CHECKS.equal("has one node", net.nodeCount(), 1);
        CHECKS.equal("forgets the names", Nets.nodeNamed(net, "a"), -1);
    }

    /** Promise 4. */
    private static void loadError() {
        PathReservations net = new PathReservations();
        CHECKS.equal("no load yet", net.loadError(), 0);
        net.saveSnapshot(0);
        Nets.load(net, "hold 0");
        CHECKS.equal("error 2", net.loadError(), 2);
        net.nodeNamed();
        net.restoreSnapshot(0);
        CHECKS.equal("snapshots do not have it", net.loadError(), 2);
        Nets.load(net, "node abcdefg");
        CHECKS.equal("error 3", net.loadError(), 3);
        Nets.load(net, "x");
        CHECKS.equal("error 1", net.loadError(), 1);
        Nets.load(net, Nets.nodes(12) + ";node m");
        CHECKS.equal("error 4", net.loadError(), 4);
        net.saveSnapshot(0);
        Nets.load(net, "node a");
        CHECKS.equal("no error again", net.loadError(), 0);
        net.restoreSnapshot(0);
        CHECKS.equal("still none", net.loadError(), 0);
    }

    /** Promise 5. */
    private static void nodeNamed() {
        PathReservations net = Nets.net("node a;node ab;node abcdef;node z;node fedcba");
        String[] names = {"a", "ab", "abcdef", "z", "fedcba"};
        for (int node = 0; node < names.length; node++) {
            CHECKS.equal("node " + names[node], Nets.nodeNamed(net, names[node]), node);
            CHECKS.equal("the buffer is empty", net.append(0), 0);
        }
        for (String name : new String[] {"", "b", "aa", "abc", "abcde", "abcdefg", "aabcdef", "abcdefabcdef",
            " a", "a ", "a;", "A", "\u00e1", "abcdefa", "a\u0001", "ba"}) {
            CHECKS.equal("no node '" + name + "'", Nets.nodeNamed(net, name), -1);
            CHECKS.equal("the buffer is empty after '" + name + "'", net.append(0), 0);
        }
        Nets.write(net, "ab");
        net.append(0);
        CHECKS.equal("zeros do not count", net.nodeNamed(), 1);
        CHECKS.equal("the name is gone", net.nodeNamed(), -1);
    }

    /** Promises 6 and 7. */
    private static void counts() {
        CHECKS.equal("3 nodes", Nets.triangle().nodeCount(), 3);
        CHECKS.equal("3 links", Nets.triangle().linkCount(), 3);
        CHECKS.equal("12 nodes", Nets.net(Nets.nodes(12)).nodeCount(), 12);
        CHECKS.equal("0 links", Nets.net(Nets.nodes(12)).linkCount(), 0);
        PathReservations full = Nets.net("node a;node b" + ";link b a 1 2 3".repeat(24));
        CHECKS.equal("24 links", full.linkCount(), 24);
        CHECKS.equal("2 nodes", full.nodeCount(), 2);
        full.takeDown(3);
        CHECKS.equal("a link that is down counts", full.linkCount(), 24);
    }

    /** Promise 8. */
    private static void nameLetter() {
        PathReservations net = Nets.net("node x;node abcdez;node yx");
        String[] names = {"x", "abcdez", "yx"};
        for (int node = 0; node < names.length; node++) {
            for (int i = 0; i < 9; i++) {
                int letter = i < names[node].length() ? names[node].charAt(i) : -1;
                CHECKS.equal("letter " + i + " of " + names[node], net.nameLetter(node, i), letter);
            }
            CHECKS.equal("letter -1", net.nameLetter(node, -1), -1);
            CHECKS.equal("the least index", net.nameLetter(node, Integer.MIN_VALUE), -1);
            CHECKS.equal("the greatest index", net.nameLetter(node, Integer.MAX_VALUE), -1);
        }
        CHECKS.index("node 3", () -> net.nameLetter(3, 0));
        CHECKS.index("node -1", () -> net.nameLetter(-1, 0));
        CHECKS.index("no index and no node", () -> net.nameLetter(3, 9));
    }

    /** Promise 9. */
    private static void linkValue() {
        PathReservations net = Nets.triangle();
        net.request(Nets.A, Nets.C, 6, 10);
        net.request(Nets.A, Nets.C, 7, 10);
        net.takeDown(2);
        int[][] due = {{0, 1, 10, 2, 3, 6, 4, 1, 1}, {1, 2, 8, 1, 2, 0, 8, 0, 1}, {0, 2, 5, 9, 4, 0, 5, 0, 0}};
        for (int link = 0; link < due.length; link++) {
            for (int what = 0; what <= 8; what++) {
                CHECKS.equal("link " + link + " what " + what, net.linkValue(link, what), due[link][what]);
            }
        }
        net.advance(3);
        CHECKS.equal("promised at time 3", net.linkValue(1, 5), 6);
        CHECKS.equal("available at time 3", net.linkValue(1, 6), 2);
        CHECKS.index("link 3", () -> net.linkValue(3, 0));
        CHECKS.index("link -1", () -> net.linkValue(-1, 0));
        CHECKS.argument("what 9", () -> net.linkValue(0, 9));
        CHECKS.argument("what -1", () -> net.linkValue(0, -1));
        CHECKS.index("the link is looked at first", () -> net.linkValue(3, 9));
    }

    /** Promise 10. */
    private static void setting() {
        PathReservations net = Nets.net("cancel 1;expire 2;tries 3;retry 4;hold 5");
        for (int what = 0; what < 5; what++) {
            CHECKS.equal("setting " + what, net.setting(what), 5 - what);
        }
        CHECKS.argument("setting 5", () -> net.setting(5));
        CHECKS.argument("setting -1", () -> net.setting(-1));
        CHECKS.argument("setting least", () -> net.setting(Integer.MIN_VALUE));
    }

    /** Promise 11. */
    private static void setSetting() {
        int[] usual = {20, 5, 3, 50, 80};
        int[] least = {1, 1, 1, 0, 0};
        int[] greatest = {500, 100, 9, 100, 100};
        PathReservations net = Nets.triangle();
        for (int i = 0; i < usual.length; i++) {
            int what = i;
            CHECKS.equal("previous of " + what, net.setSetting(what, least[what]), usual[what]);
            CHECKS.equal("least of " + what, net.setSetting(what, greatest[what]), least[what]);
            CHECKS.argument("too small " + what, () -> net.setSetting(what, least[what] - 1));
            CHECKS.argument("too great " + what, () -> net.setSetting(what, greatest[what] + 1));
            CHECKS.equal("greatest of " + what, net.setting(what), greatest[what]);
        }
        CHECKS.argument("what 5", () -> net.setSetting(5, 1));
        CHECKS.argument("what -1", () -> net.setSetting(-1, 1));
    }

    /** Promise 11: what happened before stays. */
    private static void setSettingFromNowOn() {
        PathReservations net = Nets.triangle();
        net.request(Nets.A, Nets.C, 6, 10);
        net.setSetting(0, 4);
        CHECKS.equal("the expiry of before", net.ticketValue(0, 4), 20);
        net.advance(3);
        CHECKS.equal("the expiry of now", net.ticketValue(1, 4), 7);
        net.request(Nets.A, Nets.C, 6, 10);
        net.setSetting(1, 100);
        CHECKS.equal("the next attempt stays", net.requestValue(1, 6), 8);
        net.setSetting(2, 1);
        CHECKS.equal("the request still waits", net.requestValue(1, 4), 7);
        net.advance(5);
        CHECKS.equal("its second failure is one too many", net.requestValue(1, 4), 4);
    }

    /** Promise 12. */
    private static void setCapacity() {
        PathReservations net = Nets.triangle();
        net.request(Nets.A, Nets.C, 6, 10);
        CHECKS.equal("promised exactly", net.setCapacity(0, 6), 10);
        CHECKS.equal("none available", net.linkValue(0, 6), 0);
        CHECKS.equal("more are promised", net.setCapacity(0, 5), -3);
        CHECKS.equal("unchanged", net.linkValue(0, 2), 6);
        CHECKS.equal("1000", net.setCapacity(0, 1000), 6);
        CHECKS.equal("available", net.linkValue(0, 6), 994);
        CHECKS.equal("0", net.setCapacity(2, 0), 5);
        CHECKS.equal("0 again", net.setCapacity(2, 0), 0);
        net.takeDown(2);
        CHECKS.equal("down", net.setCapacity(2, 3), 0);
        CHECKS.index("link 3", () -> net.setCapacity(3, 0));
        CHECKS.index("link -1", () -> net.setCapacity(-1, 0));
        CHECKS.argument("capacity -1", () -> net.setCapacity(0, -1));
        CHECKS.argument("capacity 1001", () -> net.setCapacity(0, 1001));
        CHECKS.index("the link is looked at first", () -> net.setCapacity(3, -1));
        CHECKS.equal("still 1000", net.linkValue(0, 2), 1000);
    }

    /** Promise 13. */
    private static void takeDown() {
        PathReservations net = Nets.triangle();
        CHECKS.equal("nobody there", net.takeDown(2), 0);
        CHECKS.equal("down", net.linkValue(2, 8), 0);
        CHECKS.equal("down already", net.takeDown(2), -3);
        net.bringUp(2);
        net.request(Nets.A, Nets.C, 3, 10);
        net.request(Nets.A, Nets.B, 2, 7);
        net.advance(4);
        CHECKS.equal("forward and back", net.takeDown(0), 2);
        CHECKS.equal("forward fails", net.requestValue(0, 4), 7);
        CHECKS.equal("back fails", net.requestValue(1, 4), 7);
        CHECKS.equal("next attempt", net.requestValue(0, 6), 9);
        CHECKS.equal("all refunded", net.requestValue(0, 8), 9);
        CHECKS.equal("excluded", net.requestValue(0, 9), 1);
        CHECKS.equal("attempts", net.requestValue(0, 5), 1);
        CHECKS.equal("failed at", net.requestValue(0, 12), 0);
        CHECKS.equal("attempts of the link", net.linkValue(0, 7), 2);
        CHECKS.equal("both tickets are released", net.linkValue(1, 5) + net.linkValue(0, 5), 0);
        CHECKS.equal("waiting requests have none", net.takeDown(1), 0);
        CHECKS.index("link 3", () -> net.takeDown(3));
        CHECKS.index("link -1", () -> net.takeDown(-1));
        net.advance(5);
        CHECKS.equal("the way that is left", net.pathLink(0, 0), 2);
        CHECKS.equal("no way is left", net.requestValue(1, 4), 4);
    }

    /** Promise 13: active, done and cancelled requests, one with an expired ticket, and the last try. */
    private static void takeDownManyRequests() {
        PathReservations net = Nets.net("node a;node b;node c;tries 1;link a b 100 7 1;link b c 100 3 40");
        net.request(Nets.A, Nets.B, 3, 7);
        net.request(Nets.A, Nets.B, 1, 1);
        net.request(Nets.A, Nets.C, 5, 9);
        net.request(Nets.A, Nets.B, 4, 30);
        net.cancel(net.request(Nets.A, Nets.B, 2, 30));
        net.advance(4);
        CHECKS.equal("active", net.requestValue(0, 4), 2);
        CHECKS.equal("done", net.requestValue(1, 4), 3);
        int late = net.request(Nets.A, Nets.B, 6, 5);
        CHECKS.equal("active, forward, active, forward", net.takeDown(0), 4);
        CHECKS.equal("broken", net.requestValue(0, 4), 6);
        CHECKS.equal("21 * 5 / 7", net.requestValue(0, 8), 15);
        CHECKS.equal("broken now", net.requestValue(0, 11), 4);
        CHECKS.equal("was active", net.requestValue(0, 10), 2);
        CHECKS.equal("nothing is due", net.requestValue(0, 6), -1);
        CHECKS.equal("28 * 28 / 30", net.requestValue(3, 8), 26);
        CHECKS.equal("released", net.ticketsOf(0, 3), 1);
        CHECKS.equal("the only try", net.requestValue(2, 4), 4);
        CHECKS.equal("failed for good", net.requestValue(late, 4), 4);
        CHECKS.equal("done stays done", net.requestValue(1, 4), 3);
        CHECKS.equal("nothing is promised", net.linkValue(0, 5), 0);
        CHECKS.equal("attempts of the link", net.linkValue(0, 7), 2);
        net.bringUp(0);
        net.request(Nets.A, Nets.C, 5, 9);
        net.advance(20);
        CHECKS.equal("the first ticket has expired", net.ticketsOf(6, 2), 1);
        CHECKS.equal("an expired ticket does not count", net.takeDown(0), 0);
        CHECKS.equal("the message goes on", net.requestValue(6, 4), 0);
    }

    /** Promise 14. */
    private static void bringUp() {
        PathReservations net = Nets.triangle();
        CHECKS.equal("up already", net.bringUp(1), -3);
        net.takeDown(1);
        net.advance(9);
        CHECKS.equal("at time 9", net.bringUp(1), 9);
        CHECKS.equal("up", net.linkValue(1, 8), 1);
        CHECKS.equal("up already", net.bringUp(1), -3);
        CHECKS.equal("usable again", net.cheapest(Nets.A, Nets.C, 1), 3);
        CHECKS.index("link 3", () -> net.bringUp(3));
        CHECKS.index("link -1", () -> net.bringUp(-1));
    }
}
