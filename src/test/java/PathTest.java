/** Promises 37 to 46: paths and flows. */
public final class PathTest {
    private static final Checks CHECKS = new Checks("PathTest");

    private PathTest() {
    }

    public static void main(String[] args) {
        cheapest();
        cheapestOfEqualOnes();
        roundTripAndNeededHold();
        neededHoldIsEnough();
        widest();
        greatestFlow();
        flowThatIsTakenBack();
        smallestCut();
        disjointPaths();
        reachable();
        criticalLinks();
        wrongNodes();
        wrongUnits();
        allUnits();
        highestNumbers();
        everyPair();
        partOfALink();
        shortestHold();
        CHECKS.end();
    }

    private static void path(String what, PathReservations net, int source, int target, int units, int price,
            int... links) {
        CHECKS.equal(what + ": price", net.cheapest(source, target, units), price);
        for (int i = 0; i < links.length; i++) {
            CHECKS.equal(what + ": link " + i, net.cheapestLink(source, target, units, i), links[i]);
        }
        CHECKS.equal(what + ": end", net.cheapestLink(source, target, units, links.length), -1);
        CHECKS.equal(what + ": index -1", net.cheapestLink(source, target, units, -1), -1);
        CHECKS.equal(what + ": greatest index", net.cheapestLink(source, target, units, Integer.MAX_VALUE), -1);
        CHECKS.equal(what + ": least index", net.cheapestLink(source, target, units, Integer.MIN_VALUE), -1);
    }

    /** Promises 37 and 38. */
    private static void cheapest() {
        PathReservations net = Nets.triangle();
        path("no units", net, 0, 2, 0, 3, 0, 1);
        path("8 units", net, 0, 2, 8, 3, 0, 1);
        path("9 units", net, 0, 2, 9, -1);
        path("1000 units", net, 0, 2, 1000, -1);
        path("one link", net, 0, 1, 10, 2, 0);
        path("no way back", net, 2, 0, 0, -1);
        net.request(0, 2, 6, 5);
        path("4 are available", net, 0, 2, 4, 3, 0, 1);
        path("but not 5", net, 0, 2, 5, 9, 2);
        net.takeDown(0);
        path("links that are up", net, 0, 2, 0, 9, 2);
        net.takeDown(2);
        path("none is up", net, 0, 2, 0, -1);
        net.setCapacity(1, 0);
        path("0 units of 0", net, 1, 2, 0, 1, 1);
        path("1 unit of 0", net, 1, 2, 1, -1);
    }

    private static void cheapestOfEqualOnes() {
        PathReservations net = Nets.net("node a;node b;node c;node d;link a b 9 1 1;link b c 9 1 1;link c d 9 1 1;"
            + "link b d 5 2 50;link a d 3 3 50;link a b 9 1 1;link b d 4 2 1");
        path("fewest links", net, 0, 3, 3, 3, 4);
        path("lowest numbers", net, 0, 3, 4, 3, 0, 3);
        path("only one of two", net, 0, 3, 5, 3, 0, 3);
        path("three links", net, 0, 3, 6, 3, 0, 1, 2);
        net.takeDown(0);
        path("the other first link", net, 0, 3, 4, 3, 5, 3);
        net.takeDown(3);
        path("the other second link", net, 0, 3, 4, 3, 5, 6);
        PathReservations dear = Nets.net(Nets.line(12, "9 1000 50"));
        path("the greatest price", dear, 0, 11, 1, 11000, 0, 1, 2, 3, 4, 5, 6, 7, 8, 9, 10);
        PathReservations late = Nets.net("node a;node b;node c;node d;link c d 9 1 1;link b d 9 1 1;"
            + "link a b 9 1 1;link a c 9 1 1");
        path("the first number counts first", late, 0, 3, 1, 2, 2, 1);
    }

    /** Promises 39 and 40. */
    private static void roundTripAndNeededHold() {
        PathReservations net = Nets.triangle();
        CHECKS.equal("there and back", net.roundTrip(0, 2, 5), 10);
        CHECKS.equal("the other way", net.roundTrip(1, 2, 5), 4);
        CHECKS.equal("no units", net.roundTrip(2, 0, 0), -1);
        CHECKS.equal("too many units", net.roundTrip(0, 2, 9), -1);
        CHECKS.equal("hold", net.neededHold(0, 2, 5), 8);
        CHECKS.equal("hold of one link", net.neededHold(1, 2, 5), 3);
        CHECKS.equal("no way, no hold", net.neededHold(2, 0, 0), -1);
        CHECKS.equal("too many units, no hold", net.neededHold(0, 2, 9), -1);
        net.takeDown(1);
        CHECKS.equal("over link 2", net.roundTrip(0, 2, 5), 8);
        CHECKS.equal("hold over link 2", net.neededHold(0, 2, 5), 5);
        PathReservations late = Nets.net(Nets.line(12, "9 1 50"));
        CHECKS.equal("the longest way", late.roundTrip(0, 11, 1), 1100);
        CHECKS.equal("the longest hold", late.neededHold(0, 11, 1), 1051);
        PathReservations mixed = Nets.net("node a;node b;node c;node d;link a b 1 1 50;link b c 1 1 1;link c d 1 1 7");
        CHECKS.equal("the first ticket waits longest", mixed.neededHold(0, 3, 1), 2 * 8 + 50 + 1);
    }

    private static void neededHoldIsEnough() {
        PathReservations net = Nets.net("node a;node b;node c;node d;link a b 1 1 4;link b c 1 1 1;link c d 1 1 7");
        int hold = net.neededHold(0, 3, 1);
        net.setSetting(0, hold);
        net.saveSnapshot(0);
        net.request(0, 3, 1, 5);
        net.advance(net.roundTrip(0, 3, 0));
        CHECKS.equal("enough", net.requestValue(0, 4), 2);
        net.restoreSnapshot(0);
        net.setSetting(0, hold - 1);
        net.request(0, 3, 1, 5);
        net.advance(net.roundTrip(0, 3, 0));
        CHECKS.equal("one less is not", net.requestValue(0, 12), 0);
    }

    /** Promise 41. */
    private static void widest() {
        PathReservations net = Nets.triangle();
        CHECKS.equal("over b", net.widest(0, 2), 8);
        CHECKS.equal("one link", net.widest(0, 1), 10);
        CHECKS.equal("no path", net.widest(2, 0), 0);
        net.request(0, 1, 6, 5);
        CHECKS.equal("available units", net.widest(0, 2), 5);
        net.takeDown(2);
        CHECKS.equal("what is up", net.widest(0, 2), 4);
        net.request(0, 1, 4, 5);
        CHECKS.equal("nothing is available", net.widest(0, 2), 0);
        PathReservations wide = Nets.net("node a;node b;link a b 3 0 1;link a b 1000 9 9;link a b 999 0 1");
        CHECKS.equal("the widest of three", wide.widest(0, 1), 1000);
    }

    /** Promise 42. */
    private static void greatestFlow() {
        PathReservations net = Nets.triangle();
        CHECKS.equal("both ways", net.greatestFlow(0, 2), 13);
        CHECKS.equal("one link", net.greatestFlow(0, 1), 10);
        CHECKS.equal("no path", net.greatestFlow(2, 0), 0);
        net.request(0, 2, 3, 5);
        CHECKS.equal("7 over b", net.greatestFlow(0, 2), 12);
        net.takeDown(2);
        CHECKS.equal("up alone", net.greatestFlow(0, 2), 7);
        net.advance(3);
        CHECKS.equal("5 over b", net.greatestFlow(0, 2), 5);
        PathReservations full = Nets.net("node a;node b" + ";link a b 1000 1 1".repeat(23) + ";link b a 1000 1 1");
        CHECKS.equal("23 links", full.greatestFlow(0, 1), 23000);
        CHECKS.equal("1 link", full.greatestFlow(1, 0), 1000);
    }

    private static void flowThatIsTakenBack() {
        PathReservations net = Nets.net("node s;node u;node v;node w;node x;node t;link s u 1 1 1;"
            + "link u x 1 1 1;link x t 1 1 1;link s v 1 1 1;link v w 1 1 1;link w x 1 1 1;link u v 0 1 1;"
            + "link u w 1 1 1;link w t 1 1 1;link s x 1 1 1");
        CHECKS.equal("two at a time", net.greatestFlow(0, 5), 2);
        PathReservations cross = Nets.net("node s;node a;node b;node c;node d;node t;link s a 5 1 1;link s b 5 1 1;"
            + "link a d 5 1 1;link a c 5 1 1;link b d 5 1 1;link c t 5 1 1;link d t 5 1 1");
        CHECKS.equal("a gives way to b", cross.greatestFlow(0, 5), 10);
        CHECKS.equal("the cut", cross.smallestCut(0, 5), 3);
        CHECKS.equal("one unit gives way, too", cross.disjointPaths(0, 5, 5), 2);
        PathReservations bridge = Nets.net("node s;node a;node b;node t;link s a 1000 1 1;link a b 1 1 1;"
            + "link b t 1000 1 1;link s b 1000 1 1;link a t 1000 1 1");
        CHECKS.equal("with a bridge", bridge.greatestFlow(0, 3), 2000);
    }

    /** Promise 43. */
    private static void smallestCut() {
        PathReservations net = Nets.triangle();
        CHECKS.equal("links 1 and 2", net.smallestCut(0, 2), 6);
        CHECKS.equal("link 0", net.smallestCut(0, 1), 1);
        CHECKS.equal("no link leaves c", net.smallestCut(2, 0), 0);
        net.takeDown(1);
        CHECKS.equal("only links that are up", net.smallestCut(0, 2), 4);
        net.setCapacity(2, 0);
        CHECKS.equal("full links, too", net.smallestCut(0, 2), 4);
        PathReservations equal = Nets.net("node a;node b;node c;node d;link a b 3 1 1;link b c 3 1 1;link c d 3 1 1;"
            + "link d a 9 1 1");
        CHECKS.equal("the one next to the source", equal.smallestCut(0, 3), 1);
        PathReservations back = Nets.net("node s;node a;node b;node t;link s a 5 1 1;link a b 3 1 1;link b t 9 1 1;"
            + "link s b 4 1 1;link a t 0 1 1;link b a 2 1 1");
        CHECKS.equal("a can be reached, b can't", back.smallestCut(0, 3), 1 << 1 | 1 << 3 | 1 << 4);
        CHECKS.equal("its flow", back.greatestFlow(0, 3), 7);
        PathReservations last = Nets.net("node a;node b" + ";link a b 1 1 1".repeat(24));
        CHECKS.equal("24 links", last.smallestCut(0, 1), 0xffffff);
    }

    /** Promise 44. */
    private static void disjointPaths() {
        PathReservations net = Nets.triangle();
        CHECKS.equal("two", net.disjointPaths(0, 2, 5), 2);
        CHECKS.equal("one", net.disjointPaths(0, 2, 6), 1);
        CHECKS.equal("none", net.disjointPaths(0, 2, 9), 0);
        CHECKS.equal("no way back", net.disjointPaths(2, 0, 0), 0);
        net.takeDown(2);
        CHECKS.equal("up alone", net.disjointPaths(0, 2, 0), 1);
        net.setCapacity(1, 0);
        CHECKS.equal("no units needed", net.disjointPaths(0, 2, 0), 1);
        CHECKS.equal("one unit needed", net.disjointPaths(0, 2, 1), 0);
        PathReservations cross = Nets.net("node s;node a;node b;node t;link s a 9 1 1;link a b 9 1 1;link b t 9 1 1;"
            + "link s b 9 1 1;link a t 9 1 1");
        CHECKS.equal("not over the bridge", cross.disjointPaths(0, 3, 9), 2);
        PathReservations hub = Nets.net("node s;node m;node t" + ";link s m 9 1 1;link m t 9 1 1".repeat(3));
        CHECKS.equal("nodes may be shared", hub.disjointPaths(0, 2, 9), 3);
    }

    /** Promise 45. */
    private static void reachable() {
        PathReservations net = Nets.triangle();
        CHECKS.equal("all", net.reachable(0, 0), 7);
        CHECKS.equal("from b", net.reachable(1, 8), 6);
        CHECKS.equal("from b with too many units", net.reachable(1, 9), 2);
        CHECKS.equal("from c", net.reachable(2, 0), 4);
        CHECKS.equal("10 units", net.reachable(0, 10), 3);
        CHECKS.equal("1000 units", net.reachable(0, 1000), 1);
        net.request(0, 1, 3, 5);
        CHECKS.equal("7 are left", net.reachable(0, 8), 1);
        net.takeDown(0);
        CHECKS.equal("not over a link that is down", net.reachable(0, 0), 5);
        PathReservations line = Nets.net(Nets.line(12, "9 1 1"));
        CHECKS.equal("12 nodes", line.reachable(0, 9), 4095);
        CHECKS.equal("2 nodes", line.reachable(10, 9), 3072);
        PathReservations back = Nets.net("node a;node b;node c;node d;link c d 9 1 1;link b c 9 1 1;link a b 9 1 1");
        CHECKS.equal("links in the wrong order", back.reachable(0, 9), 15);
        CHECKS.index("node 3", () -> net.reachable(3, 0));
        CHECKS.index("node -1", () -> net.reachable(-1, 0));
        CHECKS.argument("units -1", () -> net.reachable(0, -1));
        CHECKS.argument("units 1001", () -> net.reachable(0, 1001));
        CHECKS.index("the node is looked at first", () -> net.reachable(3, -1));
    }

    /** Promise 46. */
    private static void criticalLinks() {
        PathReservations net = Nets.triangle();
        CHECKS.equal("two ways", net.criticalLinks(0, 2, 5), 0);
        CHECKS.equal("one way", net.criticalLinks(0, 2, 6), 3);
        CHECKS.equal("no way", net.criticalLinks(0, 2, 9), 0);
        CHECKS.equal("no way at all", net.criticalLinks(2, 0, 0), 0);
        net.takeDown(0);
        CHECKS.equal("one is down", net.criticalLinks(0, 2, 5), 4);
        PathReservations diamond = Nets.net("node s;node a;node b;node m;node t;link m t 9 1 1;link s a 9 1 1;"
            + "link s b 9 1 1;link a m 9 1 1;link b m 9 1 1");
        CHECKS.equal("the last one", diamond.criticalLinks(0, 4, 1), 1);
        diamond.takeDown(3);
        CHECKS.equal("three", diamond.criticalLinks(0, 4, 1), 1 | 1 << 2 | 1 << 4);
        PathReservations line = Nets.net(Nets.line(12, "9 1 1"));
        CHECKS.equal("eleven", line.criticalLinks(0, 11, 1), 2047);
    }

    private static void wrongNodes() {
        PathReservations net = Nets.triangle();
        for (int node : new int[] {3, -1, Integer.MAX_VALUE, Integer.MIN_VALUE}) {
            for (int[] pair : new int[][] {{node, 0}, {0, node}, {node, node}}) {
                int s = pair[0];
                int t = pair[1];
                String what = " from " + s + " to " + t;
                CHECKS.index("cheapest" + what, () -> net.cheapest(s, t, -1));
                CHECKS.index("cheapestLink" + what, () -> net.cheapestLink(s, t, -1, 0));
                CHECKS.index("roundTrip" + what, () -> net.roundTrip(s, t, -1));
                CHECKS.index("neededHold" + what, () -> net.neededHold(s, t, -1));
                CHECKS.index("widest" + what, () -> net.widest(s, t));
                CHECKS.index("greatestFlow" + what, () -> net.greatestFlow(s, t));
                CHECKS.index("smallestCut" + what, () -> net.smallestCut(s, t));
                CHECKS.index("disjointPaths" + what, () -> net.disjointPaths(s, t, -1));
                CHECKS.index("criticalLinks" + what, () -> net.criticalLinks(s, t, -1));
            }
        }
        CHECKS.argument("cheapest from 1 to 1", () -> net.cheapest(1, 1, 1));
        CHECKS.argument("cheapestLink from 1 to 1", () -> net.cheapestLink(1, 1, 1, 0));
        CHECKS.argument("roundTrip from 1 to 1", () -> net.roundTrip(1, 1, 1));
        CHECKS.argument("neededHold from 1 to 1", () -> net.neededHold(1, 1, 1));
        CHECKS.argument("widest from 1 to 1", () -> net.widest(1, 1));
        CHECKS.argument("greatestFlow from 1 to 1", () -> net.greatestFlow(1, 1));
        CHECKS.argument("smallestCut from 1 to 1", () -> net.smallestCut(1, 1));
        CHECKS.argument("disjointPaths from 1 to 1", () -> net.disjointPaths(1, 1, 1));
        CHECKS.argument("criticalLinks from 1 to 1", () -> net.criticalLinks(1, 1, 1));
    }

    private static void wrongUnits() {
        PathReservations net = Nets.triangle();
        for (int units : new int[] {-1, 1001, Integer.MAX_VALUE, Integer.MIN_VALUE}) {
            CHECKS.argument("cheapest, units " + units, () -> net.cheapest(0, 2, units));
            CHECKS.argument("cheapestLink, units " + units, () -> net.cheapestLink(0, 2, units, 0));
            CHECKS.argument("roundTrip, units " + units, () -> net.roundTrip(0, 2, units));
            CHECKS.argument("neededHold, units " + units, () -> net.neededHold(0, 2, units));
            CHECKS.argument("disjointPaths, units " + units, () -> net.disjointPaths(0, 2, units));
            CHECKS.argument("criticalLinks, units " + units, () -> net.criticalLinks(0, 2, units));
        }
        for (int units : new int[] {0, 1000}) {
            CHECKS.equal("allowed, cheapest " + units, net.cheapest(0, 2, units), units == 0 ? 3 : -1);
            CHECKS.equal("allowed, hold " + units, net.neededHold(0, 2, units), units == 0 ? 8 : -1);
            CHECKS.equal("allowed, disjoint " + units, net.disjointPaths(0, 2, units), units == 0 ? 2 : 0);
            CHECKS.equal("allowed, critical " + units, net.criticalLinks(0, 1, units), units == 0 ? 1 : 0);
        }
    }

    /** As many units as are available, one more, and none; with links that have 0, 1 and 1000. */
    private static void allUnits() {
        for (int most : new int[] {0, 1, 2, 999, 1000}) {
            PathReservations net = Nets.net("node a;node b;node c;link a b " + most + " 3 4;link b c 1000 5 6");
            for (int units : new int[] {0, 1, most, Math.min(most + 1, 1000), 1000}) {
                boolean enough = units <= most;
                String what = units + " units of " + most;
                path(what, net, 0, 2, units, enough ? 8 : -1, enough ? new int[] {0, 1} : new int[0]);
                CHECKS.equal(what + ": round trip", net.roundTrip(0, 2, units), enough ? 20 : -1);
                CHECKS.equal(what + ": hold", net.neededHold(0, 2, units), enough ? 17 : -1);
                CHECKS.equal(what + ": disjoint", net.disjointPaths(0, 2, units), enough ? 1 : 0);
                CHECKS.equal(what + ": reachable", net.reachable(0, units), enough ? 7 : 1);
                CHECKS.equal(what + ": critical", net.criticalLinks(0, 2, units), enough ? 3 : 0);
            }
            CHECKS.equal("widest of " + most, net.widest(0, 2), most);
            CHECKS.equal("flow of " + most, net.greatestFlow(0, 2), most);
            CHECKS.equal("cut of " + most, net.smallestCut(0, 2), 1);
        }
    }

    /** Bit 23 for the last link, bit 11 for the last node. */
    private static void highestNumbers() {
        PathReservations net = Nets.net(Nets.nodes(12) + ";link a b 1 1 1".repeat(23) + ";link k l 5 1000 50");
        CHECKS.equal("the last node", net.reachable(10, 5), 1 << 10 | 1 << 11);
        CHECKS.equal("from the last node", net.reachable(11, 0), 1 << 11);
        CHECKS.equal("the last link is critical", net.criticalLinks(10, 11, 5), 1 << 23);
        CHECKS.equal("the last link is the cut", net.smallestCut(10, 11), 1 << 23);
        CHECKS.equal("the last link is cheapest", net.cheapestLink(10, 11, 5, 0), 23);
        CHECKS.equal("its price", net.cheapest(10, 11, 5), 1000);
        CHECKS.equal("its flow", net.greatestFlow(10, 11), 5);
        CHECKS.equal("23 links", net.disjointPaths(0, 1, 1), 23);
        CHECKS.equal("cut of 23 links", net.smallestCut(0, 1), (1 << 23) - 1);
        net.takeDown(23);
        CHECKS.equal("down: nothing is cut", net.smallestCut(10, 11), 0);
        CHECKS.equal("down: nothing is critical", net.criticalLinks(10, 11, 0), 0);
        CHECKS.equal("down: alone", net.reachable(10, 0), 1 << 10);
        CHECKS.equal("down: no width", net.widest(10, 11), 0);
        CHECKS.equal("down: no flow", net.greatestFlow(10, 11), 0);
    }

    /** One question after another to the same object, from every node to every other one. */
    private static void everyPair() {
        int[][] flows = {{0, 4, 3, 4, 0}, {0, 0, 3, 5, 0}, {0, 0, 0, 2, 0}, {0, 0, 0, 0, 0}, {0, 6, 3, 5, 0}};
        int behindB = 1 << 2 | 1 << 4;
        int[][] cuts = {{0, 1, 2, 1, 0}, {0, 0, 2, behindB, 0}, {0, 0, 0, 4, 0}, {0, 0, 0, 0, 0},
            {0, 1 << 3, 2, behindB, 0}};
        PathReservations net = Nets.net("node a;node b;node c;node d;node e;link a b 4 1 1;link b c 3 1 1;"
            + "link c d 2 1 1;link e b 6 1 1;link b d 3 1 1");
        for (int round = 0; round < 2; round++) {
            for (int i = 0; i < 25; i++) {
                int source = (round == 0 ? i : 24 - i) / 5;
                int target = (round == 0 ? i : 24 - i) % 5;
                if (source != target) {
                    String what = "from " + source + " to " + target;
                    CHECKS.equal("flow " + what, net.greatestFlow(source, target), flows[source][target]);
                    CHECKS.equal("cut " + what, net.smallestCut(source, target), cuts[source][target]);
                    CHECKS.same("way " + what, net.disjointPaths(source, target, 1) > 0, flows[source][target] > 0);
                }
            }
        }
    }

    /** A link serves two paths, the second one with what the first one leaves. */
    private static void partOfALink() {
        PathReservations net = Nets.net("node s;node a;node b;node t;link s a 5 1 1;link a t 3 1 1;link a b 9 1 1;"
            + "link b t 9 1 1");
        CHECKS.equal("3 and 2", net.greatestFlow(0, 3), 5);
        CHECKS.equal("the first link is full", net.smallestCut(0, 3), 1);
        net.setCapacity(0, 20);
        CHECKS.equal("3 and 9", net.greatestFlow(0, 3), 12);
        CHECKS.equal("a can be reached", net.smallestCut(0, 3), 1 << 1 | 1 << 2);
        net.setCapacity(3, 4);
        CHECKS.equal("3 and 4", net.greatestFlow(0, 3), 7);
        CHECKS.equal("so can b", net.smallestCut(0, 3), 1 << 1 | 1 << 3);
        net.setCapacity(2, 4);
        CHECKS.equal("3 and 4 on both links", net.greatestFlow(0, 3), 7);
        CHECKS.equal("the full link next to the source", net.smallestCut(0, 3), 1 << 1 | 1 << 2);
    }

    private static void shortestHold() {
        PathReservations net = Nets.net("node a;node b;node c;link a b 1 1 1;link b c 1 1 50");
        CHECKS.equal("one tick there", net.neededHold(0, 1, 0), 2);
        CHECKS.equal("one tick there and one back", net.roundTrip(0, 1, 0), 2);
        CHECKS.equal("50 ticks there", net.neededHold(1, 2, 0), 51);
        CHECKS.equal("the first link", net.neededHold(0, 2, 0), 102);
        PathReservations last = Nets.net("node a;node b;node c;link a b 1 1 50;link b c 1 1 1");
        CHECKS.equal("the first link, with its own delay", last.neededHold(0, 2, 0), 53);
    }
}
