/** Promises 47 to 57: predictions and snapshots. */
public final class PredictionTest {
    private static final Checks CHECKS = new Checks("PredictionTest");

    private PredictionTest() {
    }

    public static void main(String[] args) {
        ticksUntilActive();
        twoThousandTicks();
        ticksForNew();
        greatestNew();
        fullOfRequests();
        revenueAfter();
        availableAfter();
        ticksUntilAvailable();
        ticksUntilAvailableAtTheEdge();
        stateAfter();
        activeWithout();
        ticksUntilQuiet();
        predictionsChangeNothing();
        predictionsComeTrue();
        predictionsSeeNoErrorOfTheText();
        snapshots();
        snapshotsHoldEverything();
        snapshotsLeaveTheBuffer();
        wrongArguments();
        CHECKS.end();
    }

    /** Promise 47. */
    private static void ticksUntilActive() {
        PathReservations net = Nets.triangle();
        net.request(0, 2, 6, 10);
        net.request(2, 0, 1, 1);
        net.request(0, 2, 3, 10);
        for (int time = 0; time < 10; time++) {
            CHECKS.equal("at " + time, net.ticksUntilActive(0), 10 - time);
            CHECKS.equal("failed, at " + time, net.ticksUntilActive(1), -1);
            CHECKS.equal("after a failure, at " + time, net.ticksUntilActive(2), 3 + 5 + 8 - time);
            net.advance(1);
        }
        CHECKS.equal("active", net.ticksUntilActive(0), 0);
        net.advance(9);
        CHECKS.equal("active still", net.ticksUntilActive(0), 0);
        net.advance(1);
        CHECKS.equal("done", net.ticksUntilActive(0), -1);
        net.request(0, 2, 6, 10);
        net.cancel(3);
        CHECKS.equal("cancelled", net.ticksUntilActive(3), -1);
        net.request(0, 2, 6, 1);
        CHECKS.equal("active for one tick only", net.ticksUntilActive(4), 10);
        net.setSetting(0, 7);
        net.request(0, 2, 6, 10);
        CHECKS.equal("it will fail", net.ticksUntilActive(5), -1);
    }

    /**
     * The first two attempts go over the line and come back 800 ticks later, as too many tickets have
     * expired; the third one goes over three links that lead to the target in this time.
     */
    private static PathReservations lateNet(int lastDelay) {
        return Nets.net("hold 500;retry 100;" + Nets.line(12, "9 0 50") + ";link f g 9 0 50;link c l 9 1 " + lastDelay);
    }

    private static void twoThousandTicks() {
        PathReservations net = lateNet(1);
        net.request(0, 11, 1, 1);
        CHECKS.equal("2002 ticks", net.ticksUntilActive(0), -1);
        net.advance(1);
        CHECKS.equal("2001 ticks", net.ticksUntilActive(0), -1);
        net.advance(1);
        CHECKS.equal("2000 ticks", net.ticksUntilActive(0), 2000);
        net.advance(1);
        CHECKS.equal("1999 ticks", net.ticksUntilActive(0), 1999);
        PathReservations next = lateNet(1);
        CHECKS.equal("a new one in 2002 ticks", next.ticksForNew(0, 11, 1), -1);
        CHECKS.equal("none in 2000 ticks", next.greatestNew(0, 11), -1);
        next.setSetting(1, 99);
        CHECKS.equal("a new one in 2000 ticks", next.ticksForNew(0, 11, 1), 2000);
        CHECKS.equal("8 in 2000 ticks", next.greatestNew(0, 11), 8);
    }

    /** Promise 48. */
    private static void ticksForNew() {
        PathReservations net = Nets.triangle();
        CHECKS.equal("over b", net.ticksForNew(0, 2, 8), 10);
        CHECKS.equal("fails at b, then over link 2", net.ticksForNew(1, 2, 1), 4);
        CHECKS.equal("too many for both ways", net.ticksForNew(0, 2, 9), -1);
        CHECKS.equal("no way", net.ticksForNew(2, 0, 1), -1);
        net.request(0, 2, 6, 10);
        CHECKS.equal("fails at once, then over link 2", net.ticksForNew(0, 2, 5), 5 + 8);
        CHECKS.equal("fails at b, then over link 2", net.ticksForNew(0, 2, 3), 3 + 5 + 8);
        CHECKS.equal("enough for both", net.ticksForNew(0, 2, 2), 10);
        CHECKS.equal("none was made", net.requestCount(), 1);
        PathReservations least = Nets.net("node a;node b;link a b 1000 1 1");
        CHECKS.equal("1000 units", least.ticksForNew(0, 1, 1000), 2);
        least.setSetting(2, 1);
        least.setCapacity(0, 999);
        CHECKS.equal("1000 units of 999", least.ticksForNew(0, 1, 1000), -1);
    }

    /** Promise 49. */
    private static void greatestNew() {
        PathReservations net = Nets.net("node a;node b;link a b 1000 1 1");
        int[][] due = {{1000, 512}, {512, 512}, {511, 256}, {64, 64}, {63, 32}, {5, 4}, {3, 2}, {2, 2}, {1, 1},
            {0, -1}};
        for (int[] pair : due) {
            net.setCapacity(0, pair[0]);
            CHECKS.equal("with " + pair[0] + " units", net.greatestNew(0, 1), pair[1]);
        }
        CHECKS.equal("no way", net.greatestNew(1, 0), -1);
        CHECKS.equal("none was made", net.requestCount(), 0);
        PathReservations two = Nets.triangle();
        CHECKS.equal("over b", two.greatestNew(0, 2), 8);
        two.request(0, 2, 5, 100);
        CHECKS.equal("over link 2, a failure later", two.greatestNew(0, 2), 4);
        two.setSetting(2, 1);
        CHECKS.equal("without a second try", two.greatestNew(0, 2), 2);
    }

    private static void fullOfRequests() {
        PathReservations net = Nets.triangle();
        for (int i = 0; i < 39; i++) {
            net.request(2, 0, 1, 1);
        }
        CHECKS.equal("39 requests", net.ticksForNew(0, 2, 1), 10);
        CHECKS.equal("39 requests", net.greatestNew(0, 2), 8);
        net.request(2, 0, 1, 1);
        CHECKS.equal("40 requests", net.ticksForNew(0, 2, 1), -2);
        CHECKS.equal("40 requests", net.greatestNew(0, 2), -2);
        CHECKS.index("exceptions come first", () -> net.ticksForNew(0, 3, 1));
        CHECKS.argument("of the units, too", () -> net.ticksForNew(0, 2, 0));
        CHECKS.index("and here", () -> net.greatestNew(0, 3));
        CHECKS.argument("and here", () -> net.greatestNew(0, 0));
        CHECKS.equal("the others can be asked", net.ticksUntilActive(39), -1);
    }

    /** Promise 50. */
    private static void revenueAfter() {
        PathReservations net = Nets.net("expire 25;hold 7;" + Nets.TRIANGLE);
        CHECKS.equal("nothing", net.revenueAfter(2000), 0);
        net.request(0, 2, 6, 10);
        for (int ticks = 0; ticks < 14; ticks++) {
            CHECKS.equal("after " + ticks, net.revenueAfter(ticks), ticks < 3 ? 12 : ticks < 7 ? 18 : 18 - 6 - 3);
        }
        CHECKS.equal("after 2000", net.revenueAfter(2000), 9);
        CHECKS.equal("now", net.revenue(), 12);
        CHECKS.argument("-1 ticks", () -> net.revenueAfter(-1));
        CHECKS.argument("2001 ticks", () -> net.revenueAfter(2001));
    }

    /** Promise 51. */
    private static void availableAfter() {
        PathReservations net = Nets.triangle();
        net.request(0, 2, 6, 10);
        for (int ticks = 0; ticks < 24; ticks++) {
            CHECKS.equal("link 0 after " + ticks, net.availableAfter(0, ticks), ticks < 20 ? 4 : 10);
            CHECKS.equal("link 1 after " + ticks, net.availableAfter(1, ticks), ticks < 3 || ticks >= 20 ? 8 : 2);
        }
        CHECKS.equal("after 2000", net.availableAfter(0, 2000), 10);
        net.takeDown(2);
        CHECKS.equal("a link that is down", net.availableAfter(2, 5), 5);
    }

    /** Promise 52. */
    private static void ticksUntilAvailable() {
        PathReservations net = Nets.triangle();
        net.request(0, 2, 6, 10);
        CHECKS.equal("now", net.ticksUntilAvailable(0, 4), 0);
        CHECKS.equal("after the end", net.ticksUntilAvailable(0, 5), 20);
        CHECKS.equal("all", net.ticksUntilAvailable(0, 10), 20);
        CHECKS.equal("more than there are", net.ticksUntilAvailable(0, 11), -1);
        CHECKS.equal("not needed yet", net.ticksUntilAvailable(1, 8), 0);
        net.advance(3);
        CHECKS.equal("needed now", net.ticksUntilAvailable(1, 8), 17);
        net.takeDown(2);
        CHECKS.equal("down, but available", net.ticksUntilAvailable(2, 5), 0);
        CHECKS.equal("no units", net.ticksUntilAvailable(2, 0), 0);
        CHECKS.equal("1000 units", net.ticksUntilAvailable(2, 1000), -1);
        PathReservations expiry = Nets.net("hold 4;node a;node b;link a b 5 1 50");
        expiry.request(0, 1, 5, 1);
        CHECKS.equal("when it expires", expiry.ticksUntilAvailable(0, 1), 4);
        PathReservations refilled = Nets.net("retry 3;node a;node b;node c;link a b 5 1 1;link c a 9 1 5");
        refilled.request(0, 1, 5, 3);
        refilled.request(2, 1, 5, 3);
        CHECKS.equal("not in between, at 5", refilled.ticksUntilAvailable(0, 5), 5 + 1 + 1 + 5 + 3);
    }

    private static void ticksUntilAvailableAtTheEdge() {
        for (int duration : new int[] {1997, 1998, 1999, 10000}) {
            PathReservations net = Nets.net("node a;node b;link a b 5 1 1");
            net.request(0, 1, 5, duration);
            int end = duration + 2;
            CHECKS.equal("duration " + duration, net.ticksUntilAvailable(0, 1), end <= 2000 ? end : -1);
        }
    }

    /** Promise 53. */
    private static void stateAfter() {
        PathReservations net = Nets.triangle();
        net.request(0, 2, 6, 10);
        net.request(0, 2, 3, 10);
        for (int ticks = 0; ticks < 30; ticks++) {
            int state = ticks < 5 ? 0 : ticks < 10 ? 1 : ticks < 20 ? 2 : 3;
            int other = ticks < 3 ? 0 : ticks < 8 ? 7 : ticks < 12 ? 0 : ticks < 16 ? 1 : ticks < 26 ? 2 : 3;
            CHECKS.equal("after " + ticks, net.stateAfter(0, ticks), state);
            CHECKS.equal("the other after " + ticks, net.stateAfter(1, ticks), other);
        }
        CHECKS.equal("after 2000", net.stateAfter(1, 2000), 3);
        CHECKS.equal("now", net.requestValue(0, 4), 0);
    }

    /** Promise 54. */
    private static void activeWithout() {
        PathReservations net = Nets.triangle();
        net.request(0, 2, 4, 20);
        net.request(0, 1, 2, 20);
        net.request(0, 2, 1, 20);
        net.advance(6);
        CHECKS.equal("one is active", net.inState(2), 1);
        CHECKS.equal("it uses link 0", net.activeWithout(0, 0), 0);
        CHECKS.equal("but not link 1", net.activeWithout(1, 0), 1);
        CHECKS.equal("nor link 2", net.activeWithout(2, 0), 1);
        CHECKS.equal("all will be", net.activeWithout(2, 4), 3);
        CHECKS.equal("two fail once", net.activeWithout(1, 12), 1);
        CHECKS.equal("and go over link 2", net.activeWithout(1, 5 + 8), 3);
        CHECKS.equal("without link 0 they do it, too", net.activeWithout(0, 5 + 8), 2);
        CHECKS.equal("all are done then", net.activeWithout(2, 2000), 0);
        CHECKS.equal("it is still up", net.linkValue(0, 8), 1);
        net.takeDown(2);
        CHECKS.equal("down already", net.activeWithout(2, 4), 3);
        CHECKS.equal("the other way is closed", net.activeWithout(1, 5 + 8), 1);
    }

    /** Promise 55. */
    private static void ticksUntilQuiet() {
        PathReservations net = Nets.triangle();
        CHECKS.equal("quiet", net.ticksUntilQuiet(), 0);
        net.request(2, 0, 6, 10);
        CHECKS.equal("failed for good", net.ticksUntilQuiet(), 0);
        net.request(0, 2, 6, 10);
        for (int time = 0; time <= 20; time++) {
            CHECKS.equal("at " + time, net.ticksUntilQuiet(), 20 - time);
            net.advance(1);
        }
        net.request(0, 2, 6, 10000);
        CHECKS.equal("a long time", net.ticksUntilQuiet(), 10010);
        net.advance(15);
        CHECKS.equal("15 ticks less", net.ticksUntilQuiet(), 9995);
        net.cancel(2);
        CHECKS.equal("quiet again", net.ticksUntilQuiet(), 0);
        net.request(0, 1, 11, 7);
        CHECKS.equal("until the attempt that finds no path", net.ticksUntilQuiet(), 5);
    }

    private static PathReservations busy() {
        PathReservations net = Nets.net("hold 11;" + Nets.TRIANGLE);
        net.request(0, 2, 6, 10);
        net.request(0, 2, 5, 9);
        net.request(1, 2, 3, 8);
        net.advance(1);
        net.request(0, 1, 4, 7);
        return net;
    }

    /** Section 6. */
    private static void predictionsChangeNothing() {
        PathReservations net = busy();
        Nets.write(net, "ab");
        String before = Nets.state(net);
        net.ticksUntilActive(1);
        net.ticksForNew(0, 2, 2);
        net.greatestNew(0, 2);
        net.revenueAfter(100);
        net.availableAfter(0, 100);
        net.ticksUntilAvailable(0, 10);
        net.stateAfter(0, 100);
        net.activeWithout(0, 100);
        net.activeWithout(1, 0);
        net.ticksUntilQuiet();
        CHECKS.same("predictions change nothing", Nets.state(net), before);
        CHECKS.equal("nor the buffer", net.append(0), 2);
        PathReservations other = busy();
        other.advance(50);
        net.advance(50);
        CHECKS.same("and all goes on as it would have", Nets.state(net), Nets.state(other));
    }

    private static void predictionsComeTrue() {
        for (int ticks = 1; ticks <= 40; ticks += 3) {
            PathReservations net = busy();
            long revenue = net.revenueAfter(ticks);
            int available = net.availableAfter(1, ticks);
            int state = net.stateAfter(1, ticks);
            int without = net.activeWithout(0, ticks);
            PathReservations cut = busy();
            cut.takeDown(0);
            cut.advance(ticks);
            net.advance(ticks);
            CHECKS.equal("revenue after " + ticks, net.revenue(), revenue);
            CHECKS.equal("available after " + ticks, net.linkValue(1, 6), available);
            CHECKS.equal("state after " + ticks, net.requestValue(1, 4), state);
            CHECKS.equal("active without link 0 after " + ticks, cut.inState(2), without);
        }
    }

    /** A text is read elsewhere first; what was read before an error must not be seen. */
    private static void predictionsSeeNoErrorOfTheText() {
        PathReservations net = busy();
        long due = net.revenueAfter(9);
        Nets.load(net, "hold 1;node x;node y;link x y 1 1 1;link x x");
        CHECKS.equal("the prediction stays", net.revenueAfter(9), due);
        CHECKS.equal("the way stays", net.cheapest(0, 2, 0), 3);
    }

    /** Promises 56 and 57. */
    private static void snapshots() {
        PathReservations net = Nets.triangle();
        CHECKS.equal("nothing saved", net.restoreSnapshot(0), -1);
        CHECKS.equal("saved at 0", net.saveSnapshot(0), 0);
        net.advance(5);
        CHECKS.equal("saved at 5", net.saveSnapshot(1), 5);
        net.advance(5);
        CHECKS.equal("back to 0", net.restoreSnapshot(0), 0);
        CHECKS.equal("time 0", net.time(), 0);
        CHECKS.equal("forward to 5", net.restoreSnapshot(1), 5);
        CHECKS.equal("5 again", net.restoreSnapshot(1), 5);
        net.advance(4);
        CHECKS.equal("over the first one", net.saveSnapshot(0), 9);
        net.advance(1);
        CHECKS.equal("that is what counts", net.restoreSnapshot(0), 9);
        CHECKS.equal("the other one stays", net.restoreSnapshot(1), 5);
        Nets.load(net, "node z");
        CHECKS.equal("after a new text", net.restoreSnapshot(0), 9);
        CHECKS.equal("with its nodes", net.nodeCount(), 3);
        for (int slot : new int[] {2, -1, Integer.MAX_VALUE, Integer.MIN_VALUE}) {
            CHECKS.argument("save " + slot, () -> net.saveSnapshot(slot));
            CHECKS.argument("restore " + slot, () -> net.restoreSnapshot(slot));
        }
        PathReservations second = Nets.triangle();
        second.saveSnapshot(1);
        CHECKS.equal("slot 0 alone is empty", second.restoreSnapshot(0), -1);
    }

    private static void snapshotsHoldEverything() {
        PathReservations net = busy();
        net.takeDown(2);
        net.setCapacity(2, 77);
        net.setSetting(3, 33);
        net.advance(3);
        net.saveSnapshot(1);
        String saved = Nets.state(net);
        net.advance(20);
        String later = Nets.state(net);
        net.bringUp(2);
        net.setCapacity(2, 5);
        net.setSetting(3, 44);
        net.request(0, 2, 1, 1);
        net.cancel(0);
        net.restoreSnapshot(1);
        CHECKS.same("as it was", Nets.state(net), saved);
        net.advance(20);
        CHECKS.same("and goes on alike", Nets.state(net), later);
        net.restoreSnapshot(1);
        CHECKS.same("a copy was changed, not the snapshot", Nets.state(net), saved);
    }

    private static void snapshotsLeaveTheBuffer() {
        PathReservations net = Nets.triangle();
        Nets.write(net, "b");
        net.saveSnapshot(0);
        net.append('x');
        net.restoreSnapshot(0);
        CHECKS.equal("the buffer stays", net.append(0), 2);
        CHECKS.equal("it is bx", net.nodeNamed(), -1);
        Nets.load(net, "hold 0");
        net.saveSnapshot(1);
        net.restoreSnapshot(0);
        CHECKS.equal("so does the result of load()", net.loadError(), 2);
        CHECKS.equal("no buffer comes back", net.append(0), 0);
        CHECKS.equal("the snapshots stay, too", net.restoreSnapshot(1), 0);
    }

    private static void wrongArguments() {
        PathReservations net = Nets.triangle();
        net.request(0, 2, 1, 5);
        for (int none : new int[] {3, -1, Integer.MAX_VALUE, Integer.MIN_VALUE}) {
            CHECKS.index("ticksUntilActive " + none, () -> net.ticksUntilActive(none));
            CHECKS.index("ticksForNew from " + none, () -> net.ticksForNew(none, 0, 0));
            CHECKS.index("ticksForNew to " + none, () -> net.ticksForNew(0, none, 0));
            CHECKS.index("ticksForNew from and to " + none, () -> net.ticksForNew(none, none, 0));
            CHECKS.index("greatestNew from " + none, () -> net.greatestNew(none, 0));
            CHECKS.index("greatestNew to " + none, () -> net.greatestNew(0, none));
            CHECKS.index("availableAfter " + none, () -> net.availableAfter(none, -1));
            CHECKS.index("ticksUntilAvailable " + none, () -> net.ticksUntilAvailable(none, -1));
            CHECKS.index("stateAfter " + none, () -> net.stateAfter(none, -1));
            CHECKS.index("activeWithout " + none, () -> net.activeWithout(none, -1));
        }
        CHECKS.index("only one request", () -> net.stateAfter(1, 0));
        CHECKS.index("only one request", () -> net.ticksUntilActive(1));
        for (int ticks : new int[] {-1, 2001, Integer.MAX_VALUE, Integer.MIN_VALUE}) {
            CHECKS.argument("revenueAfter " + ticks, () -> net.revenueAfter(ticks));
            CHECKS.argument("availableAfter " + ticks, () -> net.availableAfter(0, ticks));
            CHECKS.argument("stateAfter " + ticks, () -> net.stateAfter(0, ticks));
            CHECKS.argument("activeWithout " + ticks, () -> net.activeWithout(0, ticks));
        }
        for (int units : new int[] {-1, 1001, Integer.MAX_VALUE, Integer.MIN_VALUE}) {
            CHECKS.argument("ticksUntilAvailable " + units, () -> net.ticksUntilAvailable(0, units));
            CHECKS.argument("ticksForNew " + units, () -> net.ticksForNew(0, 2, units));
        }
        CHECKS.argument("no units for a new one", () -> net.ticksForNew(0, 2, 0));
        CHECKS.argument("ticksForNew from 1 to 1", () -> net.ticksForNew(1, 1, 1));
        CHECKS.argument("greatestNew from 1 to 1", () -> net.greatestNew(1, 1));
    }
}
