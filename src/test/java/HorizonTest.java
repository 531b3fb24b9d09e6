/**
 * The boundary cases of the predictions (promises 47 to 55): what happens in the last tick that is
 * looked at, and what happens one tick later.
 */
public final class HorizonTest {
    private static final Checks CHECKS = new Checks("HorizonTest");

    private HorizonTest() {
    }

    public static void main(String[] args) {
        active();
        activeNow();
        newOne();
        newOneWithAllUnits();
        greatestNew();
        revenue();
        available();
        untilAvailable();
        state();
        without();
        withoutLinkThatIsDown();
        quiet();
        nowIsZeroTicks();
        ticketsUsedUp();
        sameTickAsInTime();
        CHECKS.end();
    }

    /**
     * Two attempts fail when they come back, after 800 and after 800 or 799 ticks, since tickets have
     * expired; the third one takes 2 * (100 + last) ticks. Between them, RETRY ticks pass.
     */
    private static PathReservations late(int secondDelay, int retry, int last) {
        return Nets.net("hold 500;retry " + retry + ";" + Nets.line(12, "9 0 50") + ";link f g 9 0 " + secondDelay
            + ";link c l 9 1 " + last);
    }

    /** Promise 47: 2000 ticks are looked at. */
    private static void active() {
        int[][] rows = {{49, 99, 1, 1999}, {50, 99, 1, 2000}, {49, 100, 1, 2001}, {50, 100, 1, 2002}};
        for (int[] row : rows) {
            int ticks = row[3];
            PathReservations net = late(row[0], row[1], row[2]);
            net.request(0, 11, 1, 1);
            CHECKS.equal("active in " + ticks, net.ticksUntilActive(0), ticks <= 2000 ? ticks : -1);
            net.advance(1);
            CHECKS.equal("a tick later", net.ticksUntilActive(0), ticks <= 2001 ? ticks - 1 : -1);
            net.advance(1000);
            CHECKS.equal("1001 ticks later", net.ticksUntilActive(0), ticks - 1001);
            net.advance(ticks - 1002);
            CHECKS.equal("a tick before", net.ticksUntilActive(0), 1);
            net.advance(1);
            CHECKS.equal("then", net.ticksUntilActive(0), 0);
            net.advance(1);
            CHECKS.equal("no longer", net.ticksUntilActive(0), -1);
        }
    }

    private static void activeNow() {
        PathReservations net = Nets.triangle();
        net.request(0, 1, 1, 2);
        net.request(2, 0, 1, 1);
        net.cancel(net.request(0, 1, 1, 1));
        int[] due = {6, 5, 4, 3, 2, 1, 0, 0, -1};
        for (int ticks : due) {
            CHECKS.equal("at " + net.time(), net.ticksUntilActive(0), ticks);
            CHECKS.equal("failed", net.ticksUntilActive(1), -1);
            CHECKS.equal("cancelled", net.ticksUntilActive(2), -1);
            net.advance(1);
        }
        net.request(0, 1, 1, 9);
        net.advance(6);
        net.takeDown(0);
        CHECKS.equal("broken", net.ticksUntilActive(3), -1);
    }

    /** Promise 48. */
    private static void newOne() {
        CHECKS.equal("in 1999", late(49, 99, 1).ticksForNew(0, 11, 1), 1999);
        CHECKS.equal("in 2000", late(50, 99, 1).ticksForNew(0, 11, 1), 2000);
        CHECKS.equal("not in 2001", late(49, 100, 1).ticksForNew(0, 11, 1), -1);
        CHECKS.equal("not in 2002", late(50, 100, 1).ticksForNew(0, 11, 1), -1);
        PathReservations net = late(50, 99, 1);
        net.advance(777);
        CHECKS.equal("from now on", net.ticksForNew(0, 11, 1), 2000);
        CHECKS.equal("the soonest", Nets.net("node a;node b;link a b 1 0 1").ticksForNew(0, 1, 1), 2);
    }

    private static void newOneWithAllUnits() {
        PathReservations net = Nets.net("node a;node b;link a b 1000 0 1");
        for (int units : new int[] {1, 2, 999, 1000}) {
            CHECKS.equal(units + " units", net.ticksForNew(0, 1, units), 2);
        }
        net.setCapacity(0, 999);
        CHECKS.equal("999 of 999 units", net.ticksForNew(0, 1, 999), 2);
        CHECKS.equal("1000 of 999 units", net.ticksForNew(0, 1, 1000), -1);
    }

    /** Promise 49. */
    private static void greatestNew() {
        CHECKS.equal("in 2000", late(50, 99, 1).greatestNew(0, 11), 8);
        CHECKS.equal("not in 2001", late(49, 100, 1).greatestNew(0, 11), -1);
        PathReservations net = Nets.net("tries 1;node a;node b;link a b 1000 0 1");
        for (int power = 1; power <= 512; power *= 2) {
            net.setCapacity(0, power);
            CHECKS.equal("with " + power, net.greatestNew(0, 1), power);
            net.setCapacity(0, power - 1);
            CHECKS.equal("with one less than " + power, net.greatestNew(0, 1), power == 1 ? -1 : power / 2);
        }
        net.setCapacity(0, 1000);
        CHECKS.equal("512 is the greatest that is tried", net.greatestNew(0, 1), 512);
        CHECKS.equal("no way", net.greatestNew(1, 0), -1);
        net.setCapacity(0, 5);
        net.request(0, 1, 4, 1);
        CHECKS.equal("what is available", net.greatestNew(0, 1), 1);
    }

    /** Eight attempts fail 150 ticks after they began; the ninth pays 5 at 8 * 250 + 150. */
    private static PathReservations lateMoney() {
        PathReservations net = Nets.net("hold 500;retry 100;tries 9;" + Nets.line(4, "9 0 50") + ";node e"
            + ";link d e 0 0 50".repeat(8) + ";link d e 9 5 50");
        net.request(0, 4, 1, 1);
        return net;
    }

    /** Promise 50. */
    private static void revenue() {
        PathReservations net = lateMoney();
        CHECKS.equal("nothing is paid yet", net.revenueAfter(2000), 0);
        net.advance(149);
        CHECKS.equal("2001 ticks", net.revenueAfter(2000), 0);
        net.advance(1);
        CHECKS.equal("2000 ticks", net.revenueAfter(2000), 5);
        CHECKS.equal("1999 ticks", net.revenueAfter(1999), 0);
        CHECKS.equal("no ticks", net.revenueAfter(0), 0);
        net.advance(1000);
        net.advance(1000);
        CHECKS.equal("it is so", net.revenue(), 5);
        CHECKS.equal("and is told so", net.revenueAfter(0), 5);
    }

    private static PathReservations ending(int duration) {
        PathReservations net = Nets.net("node a;node b;link a b 9 1 1;link a b 9 2 1");
        net.request(0, 1, 4, duration);
        return net;
    }

    /** Promise 51. */
    private static void available() {
        for (int end = 1999; end <= 2002; end++) {
            PathReservations net = ending(end - 2);
            CHECKS.equal("end " + end + ", after 2000", net.availableAfter(0, 2000), end <= 2000 ? 9 : 5);
            CHECKS.equal("end " + end + ", after 1999", net.availableAfter(0, 1999), end <= 1999 ? 9 : 5);
            CHECKS.equal("end " + end + ", now", net.availableAfter(0, 0), 5);
            CHECKS.equal("another link", net.availableAfter(1, 2000), 9);
        }
    }

    /** Promise 52. */
    private static void untilAvailable() {
        for (int end = 1999; end <= 2002; end++) {
            PathReservations net = ending(end - 2);
            CHECKS.equal("end " + end + ", 5 units", net.ticksUntilAvailable(0, 5), 0);
            CHECKS.equal("end " + end + ", 6 units", net.ticksUntilAvailable(0, 6), end <= 2000 ? end : -1);
            CHECKS.equal("end " + end + ", 9 units", net.ticksUntilAvailable(0, 9), end <= 2000 ? end : -1);
            CHECKS.equal("end " + end + ", 10 units", net.ticksUntilAvailable(0, 10), -1);
            CHECKS.equal("end " + end + ", 0 units", net.ticksUntilAvailable(0, 0), 0);
        }
        PathReservations net = Nets.net("node a;node b;link a b 1000 1 1;link a b 0 1 1");
        CHECKS.equal("1000 of 1000", net.ticksUntilAvailable(0, 1000), 0);
        CHECKS.equal("0 of 0", net.ticksUntilAvailable(1, 0), 0);
        CHECKS.equal("1 of 0", net.ticksUntilAvailable(1, 1), -1);
        net.request(0, 1, 1000, 1);
        CHECKS.equal("none is left", net.ticksUntilAvailable(0, 0), 0);
        CHECKS.equal("soon again", net.ticksUntilAvailable(0, 1000), 3);
    }

    /** Promise 53. */
    private static void state() {
        for (int end = 1999; end <= 2002; end++) {
            PathReservations net = ending(end - 2);
            CHECKS.equal("end " + end + ", after 2000", net.stateAfter(0, 2000), end <= 2000 ? 3 : 2);
            CHECKS.equal("end " + end + ", after 1999", net.stateAfter(0, 1999), end <= 1999 ? 3 : 2);
            int[] first = {0, 1, 2, 2};
            for (int ticks = 0; ticks < first.length; ticks++) {
                CHECKS.equal("after " + ticks, net.stateAfter(0, ticks), first[ticks]);
            }
        }
        int[][] rows = {{49, 99, 1, 1999}, {50, 99, 1, 2000}, {49, 100, 1, 2001}};
        for (int[] row : rows) {
            PathReservations net = late(row[0], row[1], row[2]);
            net.request(0, 11, 1, 9);
            CHECKS.equal("active in " + row[3] + "?", net.stateAfter(0, 2000), row[3] <= 2000 ? 2 : 1);
        }
    }

    /** Promise 54. */
    private static void without() {
        for (int end = 1999; end <= 2002; end++) {
            PathReservations net = ending(end - 2);
            CHECKS.equal("end " + end + ", after 2000", net.activeWithout(1, 2000), end <= 2000 ? 0 : 1);
            CHECKS.equal("end " + end + ", after 1999", net.activeWithout(1, 1999), end <= 1999 ? 0 : 1);
            CHECKS.equal("end " + end + ", now", net.activeWithout(1, 0), 0);
            CHECKS.equal("end " + end + ", soon", net.activeWithout(1, 2), 1);
            CHECKS.equal("over the other link", net.activeWithout(0, 7), 1);
            CHECKS.equal("not yet", net.activeWithout(0, 6), 0);
            net.advance(2);
            CHECKS.equal("active now", net.activeWithout(1, 0), 1);
            CHECKS.equal("broken at once", net.activeWithout(0, 0), 0);
            CHECKS.equal("and for good", net.activeWithout(0, 50), 0);
        }
    }

    private static void withoutLinkThatIsDown() {
        PathReservations net = ending(100);
        net.takeDown(1);
        CHECKS.equal("it is down already", net.activeWithout(1, 2), 1);
        CHECKS.equal("no way is left", net.activeWithout(0, 50), 0);
        CHECKS.equal("link 1 stays down", net.linkValue(1, 8), 0);
        CHECKS.equal("link 0 stays up", net.linkValue(0, 8), 1);
        CHECKS.equal("nobody failed", net.linkValue(0, 7), 0);
    }

    /** Promise 55: up to 20000; more than some 18000 can't come to pass within the ranges of section 2. */
    private static void quiet() {
        CHECKS.equal("a new object", new PathReservations().ticksUntilQuiet(), 0);
        PathReservations net = Nets.triangle();
        CHECKS.equal("no request", net.ticksUntilQuiet(), 0);
        net.request(2, 0, 1, 1);
        CHECKS.equal("one that failed", net.ticksUntilQuiet(), 0);
        net.request(0, 1, 1, 1);
        CHECKS.equal("there, back and one tick", net.ticksUntilQuiet(), 7);
        net.advance(6);
        CHECKS.equal("one tick", net.ticksUntilQuiet(), 1);
        net.advance(1);
        CHECKS.equal("quiet", net.ticksUntilQuiet(), 0);
        PathReservations late = late(50, 100, 1);
        late.request(0, 11, 1, 10000);
        CHECKS.equal("a late one for a long time", late.ticksUntilQuiet(), 12002);
        PathReservations expiry = Nets.net("hold 500;tries 1;node a;node b;link a b 9 1 50");
        expiry.request(0, 1, 1, 1);
        expiry.setSetting(0, 1);
        CHECKS.equal("it is confirmed before it expires", expiry.ticksUntilQuiet(), 101);
        expiry.request(0, 1, 1, 1);
        expiry.cancel(0);
        CHECKS.equal("it expires, and fails later", expiry.ticksUntilQuiet(), 50);
        expiry.advance(2);
        CHECKS.equal("it has expired", expiry.ticketsInState(2), 1);
        CHECKS.equal("the message goes on", expiry.ticksUntilQuiet(), 48);
    }

    private static void nowIsZeroTicks() {
        PathReservations net = Nets.triangle();
        net.request(0, 2, 6, 10);
        for (int i = 0; i < 22; i++) {
            CHECKS.equal("state", net.stateAfter(0, 0), net.requestValue(0, 4));
            CHECKS.equal("revenue", net.revenueAfter(0), net.revenue());
            CHECKS.equal("available", net.availableAfter(0, 0), net.linkValue(0, 6));
            CHECKS.equal("active", net.activeWithout(2, 0), net.inState(2));
            net.advance(1);
        }
    }

    /** Requests that are made now fail without tickets; predictions see that as well. */
    private static void ticketsUsedUp() {
        PathReservations net = Nets.net("tries 9;retry 1;" + Nets.line(11, "9 1 1") + ";node l"
            + ";link k l 0 1 1".repeat(13));
        for (int i = 0; i < 10; i++) {
            net.request(0, i < 5 ? 11 : 10, 1, 1);
            net.advance(100);
        }
        CHECKS.equal("500 tickets", net.ticketCount(), 500);
        CHECKS.equal("a new one", net.ticksForNew(0, 1, 1), -1);
        CHECKS.equal("with any units", net.greatestNew(0, 1), -1);
        CHECKS.equal("though there is a way", net.cheapest(0, 1, 1), 1);
        CHECKS.equal("and room", net.widest(0, 1), 9);
    }

    /** The answers of predictions for every tick are those that time gives. */
    private static void sameTickAsInTime() {
        for (int request = 0; request < 4; request++) {
            PathReservations net = Nets.net("hold 8;retry 2;tries 4;" + Nets.TRIANGLE);
            int[][] requests = {{0, 2, 3, 6}, {0, 2, 6, 2}, {1, 2, 5, 4}, {0, 1, 7, 3}};
            for (int[] r : requests) {
                net.request(r[0], r[1], r[2], r[3]);
            }
            CHECKS.equal("some become active", net.ticksUntilActive(request), new int[] {10, -1, 4, -1}[request]);
            comesTrue(net, request);
        }
    }

    private static void comesTrue(PathReservations net, int request) {
        int[] states = new int[40];
        long[] revenues = new long[40];
        for (int ticks = 0; ticks < states.length; ticks++) {
            states[ticks] = net.stateAfter(request, ticks);
            revenues[ticks] = net.revenueAfter(ticks);
        }
        int active = net.ticksUntilActive(request);
        int quiet = net.ticksUntilQuiet();
        for (int ticks = 0; ticks < states.length; ticks++) {
            CHECKS.equal("state of " + request + " at " + ticks, net.requestValue(request, 4), states[ticks]);
            CHECKS.equal("revenue at " + ticks, net.revenue(), revenues[ticks]);
            CHECKS.same("quiet at " + ticks, net.nextEvent() == -1, ticks >= quiet);
            boolean begun = active >= 0 && ticks >= active;
            CHECKS.equal("begin of " + request + " at " + ticks, net.requestValue(request, 10), begun ? active : -1);
            net.advance(1);
        }
    }
}
