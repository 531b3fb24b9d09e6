/**
 * The boundary cases of sections 3 to 5: the order of paths, 500 tickets, HOLD, RETRY, TRIES, the
 * refunds and their rounding, durations, what happens first in a tick, and tickets that have expired
 * when the message comes back.
 */
public final class TimeBoundsTest {
    private static final Checks CHECKS = new Checks("TimeBoundsTest");
    private static final int FORWARD = 0;
    private static final int BACK = 1;
    private static final int ACTIVE = 2;
    private static final int DONE = 3;
    private static final int FAILED = 4;
    private static final int WAITING = 7;

    private TimeBoundsTest() {
    }

    public static void main(String[] args) {
        priceThenLengthThenNumbers();
        noNodeTwice();
        elevenLinks();
        highestLink();
        exactlyEnoughUnits();
        holdAgainstDelay();
        holdAgainstRoundTrip();
        expiredInTheMiddle();
        extendedInTime();
        extendedTooLate();
        retryEnds();
        triesEnds();
        triesRaised();
        durations();
        refundOfExpired();
        refundOfCancelled();
        refundOfCancelledActive();
        refundOfBroken();
        refundOfFailed();
        refundOfDone();
        unitsOfExpiredForTheSameTick();
        unitsOfDoneForTheSameTick();
        attemptsAndMessagesInOneOrder();
        laterRequestsComeTooLate();
        expiryBeforeTheMessage();
        downAndUpBeforeTheMessage();
        lastTicket();
        lastTicketForTwo();
        fiveHundredTickets();
        fortyRequests();
        CHECKS.end();
    }

    private static void values(String what, PathReservations net, int request, int... due) {
        for (int i = 0; i + 1 < due.length; i += 2) {
            CHECKS.equal(what + ": value " + due[i] + " of request " + request,
                net.requestValue(request, due[i]), due[i + 1]);
        }
    }

    private static void path(String what, PathReservations net, int request, int... links) {
        CHECKS.equal(what + ": length", net.pathLength(request), links.length);
        for (int i = 0; i < links.length; i++) {
            CHECKS.equal(what + ": link " + i, net.pathLink(request, i), links[i]);
        }
    }

    // ---- section 3: paths

    private static void priceThenLengthThenNumbers() {
        String nodes = "node a;node b;node c;";
        PathReservations price = Nets.net(nodes + "link a c 9 3 1;link a b 9 1 9;link b c 9 1 9");
        path("one coin less is worth a link more", price, price.request(0, 2, 1, 1), 1, 2);
        PathReservations length = Nets.net(nodes + "link a b 9 1 1;link b c 9 1 1;link a c 9 2 9");
        path("at the same price a link less counts", length, length.request(0, 2, 1, 1), 2);
        PathReservations numbers = Nets.net(nodes + "link a c 9 2 9;link a c 9 2 1");
        path("at the same length the lower number counts", numbers, numbers.request(0, 2, 1, 1), 0);
        PathReservations second = Nets.net(nodes + "link b c 9 1 9;link b c 9 1 1;link a b 9 1 1");
        path("then the second number", second, second.request(0, 2, 1, 1), 2, 0);
        PathReservations delay = Nets.net(nodes + "link a c 9 2 50;link a c 9 3 1");
        path("delays play no part", delay, delay.request(0, 2, 1, 1), 0);
        PathReservations dear = Nets.net(nodes + "link a b 9 500 1;link b c 9 500 1;link a c 9 1000 1;link a c 9 999 1");
        path("great prices", dear, dear.request(0, 2, 1, 1), 3);
        dear.takeDown(3);
        path("great prices that are equal", dear, dear.request(0, 2, 1, 1), 2);
        dear.takeDown(2);
        path("the last way", dear, dear.request(0, 2, 1, 1), 0, 1);
        String line = Nets.line(12, "9 0 1");
        PathReservations long1 = Nets.net(line + ";link a l 9 1 1");
        path("ten links more for one coin less", long1, long1.request(0, 11, 1, 1), 0, 1, 2, 3, 4, 5, 6, 7, 8, 9, 10);
        PathReservations long2 = Nets.net(line + ";link a c 9 0 1");
        path("one link less for no coin", long2, long2.request(0, 11, 1, 1), 11, 2, 3, 4, 5, 6, 7, 8, 9, 10);
    }

    private static void noNodeTwice() {
        PathReservations net = Nets.net("node a;node b;node c;link a b 9 0 1;link b a 9 0 1;link b c 9 0 1;link a c 9 1 1");
        path("round trips that cost nothing", net, net.request(0, 2, 1, 1), 0, 2);
        net.takeDown(2);
        path("no round trip before the link", net, net.request(0, 2, 1, 1), 3);
        path("from b over a", net, net.request(1, 2, 1, 1), 1, 3);
    }

    private static void elevenLinks() {
        PathReservations net = Nets.net("hold 30;" + Nets.line(12, "9 1 1"));
        net.request(0, 11, 1, 5);
        path("eleven links", net, 0, 0, 1, 2, 3, 4, 5, 6, 7, 8, 9, 10);
        CHECKS.equal("no twelfth link", net.pathLink(0, 11), -1);
        net.advance(10);
        CHECKS.equal("due at the target", net.placeOf(0), 11);
        net.advance(1);
        CHECKS.equal("there and on its way back", net.placeOf(0), 10);
        values("back", net, 0, 4, BACK);
        net.advance(10);
        CHECKS.equal("due at the source", net.placeOf(0), 0);
        net.advance(1);
        values("active", net, 0, 4, ACTIVE, 10, 22);
    }

    /** Promise 21: bit 23 of the excluded links. */
    private static void highestLink() {
        PathReservations net = Nets.net("node a;node b" + ";link a b 9 2 1".repeat(23) + ";link a b 0 1 1");
        net.request(0, 1, 9, 5);
        values("it failed at the cheapest one", net, 0, 4, WAITING, 9, 1 << 23, 12, 23);
        net.advance(5);
        path("then the first one", net, 0, 0);
        net.takeDown(0);
        values("both are excluded", net, 0, 9, 1 << 23 | 1, 12, 0);
    }

    private static void exactlyEnoughUnits() {
        for (int units : new int[] {1, 2, 999, 1000}) {
            PathReservations net = Nets.net("node a;node b;link a b " + units + " 1 1");
            net.request(0, 1, units, 5);
            values("all of " + units, net, 0, 4, FORWARD, 2, units);
            CHECKS.equal("none is left of " + units, net.linkValue(0, 6), 0);
            net.request(0, 1, 1, 5);
            values("one more than " + units, net, 1, 4, WAITING, 12, 0);
            PathReservations less = Nets.net("node a;node b;link a b " + (units - 1) + " 1 1");
            less.request(0, 1, units, 5);
            values("one less than " + units, less, 0, 4, WAITING, 12, 0);
            CHECKS.equal("no ticket for " + units, less.ticketCount(), 0);
        }
    }

    // ---- sections 4 and 5: HOLD

    /** The ticket of a single link must live until the message has been at the target. */
    private static void holdAgainstDelay() {
        int[][] pairs = {{1, 1}, {2, 1}, {1, 2}, {2, 2}, {3, 2}, {49, 50}, {50, 50}, {51, 50}, {1, 50}, {500, 50},
            {500, 1}};
        for (int[] pair : pairs) {
            int hold = pair[0];
            int delay = pair[1];
            PathReservations net = Nets.net("hold " + hold + ";node a;node b;link a b 9 1 " + delay);
            String what = "hold " + hold + ", delay " + delay;
            net.request(0, 1, 1, 5);
            CHECKS.equal(what + ": expiry", net.ticketValue(0, 4), hold);
            CHECKS.equal(what + ": next expiry", net.nextExpiry(), hold);
            net.advance(delay);
            boolean lives = hold > delay;
            values(what, net, 0, 4, lives ? BACK : WAITING, 12, lives ? -1 : 0);
            CHECKS.equal(what + ": ticket", net.ticketValue(0, 5), lives ? 1 : 2);
            net.advance(delay);
            values(what, net, 0, 4, lives ? ACTIVE : delay < 5 ? WAITING : FAILED);
        }
    }

    private static void holdAgainstRoundTrip() {
        int[][] due = {{6, WAITING}, {7, WAITING}, {8, ACTIVE}, {9, ACTIVE}, {500, ACTIVE}};
        for (int[] pair : due) {
            PathReservations net = Nets.net("hold " + pair[0] + ";tries 2;" + Nets.TRIANGLE);
            net.request(0, 2, 6, 100);
            net.advance(7);
            values("when the message is back at b", net, 0, 4, pair[1] == ACTIVE ? BACK : WAITING);
            net.advance(3);
            values("hold " + pair[0], net, 0, 4, pair[1]);
            CHECKS.equal("hold " + pair[0] + ": failed at link 0", net.linkValue(0, 7), pair[1] == ACTIVE ? 0 : 1);
            net.advance(90);
            boolean active = pair[1] == ACTIVE;
            CHECKS.equal("confirmed tickets do not expire", net.ticketsOf(0, 1), active ? 2 : 0);
        }
    }

    /** The first and the last ticket live, the one between them does not. */
    private static void expiredInTheMiddle() {
        PathReservations net = Nets.net("hold 100;retry 30;node a;node b;node c;node d;link a b 9 10 2;link b c 9 10 3;"
            + "link c d 9 10 4");
        net.request(0, 3, 1, 5);
        net.setSetting(0, 3);
        net.advance(2);
        net.setSetting(0, 100);
        net.advance(3);
        CHECKS.equal("it has expired", net.ticketValue(1, 5), 2);
        values("nobody knows", net, 0, 4, FORWARD, 5, 0, 8, 5);
        CHECKS.equal("the third ticket is issued all the same", net.ticketCount(), 3);
        net.advance(4);
        values("going back", net, 0, 4, BACK, 6, 13, 8, 5);
        CHECKS.equal("the third one is confirmed", net.ticketValue(2, 5), 1);
        net.advance(3);
        values("still unnoticed", net, 0, 4, BACK, 6, 13);
        net.advance(1);
        values("at the end of link 1", net, 0, 4, WAITING, 5, 1, 6, 43, 8, 25, 9, 2, 12, 1, 10, -1, 11, -1);
        CHECKS.equal("expired stays expired", net.ticketValue(1, 5), 2);
        CHECKS.equal("half of it", net.ticketValue(1, 7), 5);
        CHECKS.equal("the held one is released", net.ticketValue(0, 5), 3);
        CHECKS.equal("whole", net.ticketValue(0, 7), 10);
        CHECKS.equal("the confirmed one, too", net.ticketValue(2, 5), 3);
        CHECKS.equal("whole, too", net.ticketValue(2, 7), 10);
        CHECKS.equal("one failed at link 1", net.linkValue(1, 7), 1);
        CHECKS.equal("none at the others", net.linkValue(0, 7) + net.linkValue(2, 7), 0);
    }

    private static void extendedInTime() {
        PathReservations net = Nets.net("hold 3;node a;node b;link a b 9 10 10");
        net.request(0, 1, 1, 5);
        net.advance(2);
        CHECKS.equal("a tick before it expires", net.extend(0), 1);
        CHECKS.equal("it expires later", net.ticketValue(0, 4), 5);
        net.advance(2);
        CHECKS.equal("it lives", net.ticketValue(0, 5), 0);
        net.setSetting(0, 1);
        CHECKS.equal("the same expiry", net.extend(0), 1);
        CHECKS.equal("is kept", net.ticketValue(0, 4), 5);
        net.setSetting(0, 2);
        CHECKS.equal("one tick more", net.extend(0), 1);
        CHECKS.equal("is taken", net.ticketValue(0, 4), 6);
        net.advance(1);
        CHECKS.equal("not at its old expiry", net.ticketValue(0, 5), 0);
        net.setSetting(0, 500);
        net.extend(0);
        CHECKS.equal("the longest HOLD", net.ticketValue(0, 4), 505);
        net.setSetting(0, 499);
        net.extend(0);
        CHECKS.equal("never earlier", net.ticketValue(0, 4), 505);
        net.advance(5);
        values("confirmed", net, 0, 4, BACK);
        CHECKS.equal("none is held", net.extend(0), 0);
        CHECKS.equal("a confirmed one is not extended", net.ticketValue(0, 4), 505);
    }

    private static void extendedTooLate() {
        PathReservations net = Nets.net("hold 3;node a;node b;link a b 9 10 10");
        net.request(0, 1, 1, 5);
        net.advance(3);
        CHECKS.equal("it has expired", net.ticketValue(0, 5), 2);
        CHECKS.equal("nothing is held", net.extend(0), 0);
        CHECKS.equal("its expiry stays", net.ticketValue(0, 4), 3);
        CHECKS.equal("it stays expired", net.ticketValue(0, 5), 2);
        net.advance(7);
        values("noticed", net, 0, 4, WAITING, 12, 0);
        CHECKS.equal("waiting requests have nothing to extend", net.extend(0), 0);
    }

    // ---- section 4: RETRY, TRIES, durations

    private static void retryEnds() {
        for (int retry : new int[] {1, 2, 99, 100}) {
            PathReservations net = Nets.net("retry " + retry + ";node a;node b;link a b 0 1 1;link a b 9 2 1");
            net.request(0, 1, 1, 5);
            values("retry " + retry, net, 0, 4, WAITING, 6, retry);
            CHECKS.equal("next event", net.nextEvent(), retry);
            if (retry > 1) {
                net.advance(retry - 1);
                values("a tick before " + retry, net, 0, 4, WAITING, 6, retry);
            }
            net.advance(1);
            values("at " + retry, net, 0, 4, FORWARD, 6, retry + 1, 9, 1);
            path("the other link", net, 0, 1);
        }
    }

    /** At the last but one failure it waits, at the last one it fails for good. */
    private static void triesEnds() {
        for (int tries = 1; tries <= 9; tries++) {
            PathReservations net = Nets.net("retry 1;tries " + tries + ";node a;node b" + ";link a b 0 1 1".repeat(12));
            net.request(0, 1, 1, 5);
            for (int failed = 1; failed < tries; failed++) {
                values(tries + " tries", net, 0, 4, WAITING, 5, failed, 6, failed);
                net.advance(1);
            }
            values("no more tries than " + tries, net, 0, 4, FAILED, 5, tries, 6, -1, 9, (1 << tries) - 1, 10, -1,
                11, -1, 12, tries - 1);
            net.advance(100);
            values("it stays", net, 0, 5, tries);
            CHECKS.equal("none at the next link", net.linkValue(tries, 7), 0);
            CHECKS.equal("one at the last link", net.linkValue(tries - 1, 7), 1);
        }
    }

    private static void triesRaised() {
        PathReservations net = Nets.net("retry 1;tries 2;node a;node b" + ";link a b 0 1 1".repeat(5));
        net.request(0, 1, 1, 5);
        net.setSetting(2, 4);
        net.advance(2);
        values("the third failure", net, 0, 4, WAITING, 5, 3);
        net.setSetting(2, 3);
        net.advance(1);
        values("more failures than TRIES", net, 0, 4, FAILED, 5, 4);
    }

    private static void durations() {
        for (int duration : new int[] {1, 2, 9999, 10000}) {
            PathReservations net = Nets.net("node a;node b;link a b 9 1 1");
            net.request(0, 1, 1, duration);
            net.advance(1);
            values("a tick before " + duration, net, 0, 4, BACK, 10, -1, 11, -1);
            net.advance(1);
            values("begins", net, 0, 3, duration, 4, ACTIVE, 10, 2, 11, 2 + duration);
            CHECKS.equal("until then", net.nextEvent(), 2 + duration);
            for (int left = duration - 1; left > 0; left -= Math.min(left, 1000)) {
                net.advance(Math.min(left, 1000));
            }
            values("a tick before its end", net, 0, 4, ACTIVE, 11, 2 + duration);
            CHECKS.equal("its ticket", net.ticketsOf(0, 1), 1);
            net.advance(1);
            values("ends", net, 0, 4, DONE, 10, 2, 11, 2 + duration, 6, -1);
            CHECKS.equal("no ticket", net.ticketsOf(0, 1), 0);
        }
    }

    // ---- refunds

    /** PRICE, units, percent and the refund that is due. */
    private static final int[][] ROUNDED = {
        {1, 1, 50, 0}, {1, 1, 99, 0}, {1, 1, 100, 1}, {1, 1, 0, 0}, {0, 7, 100, 0}, {1, 2, 50, 1}, {1, 3, 50, 1},
        {11, 9, 1, 0}, {10, 10, 1, 1}, {199, 1, 1, 1}, {200, 1, 1, 2}, {3, 33, 34, 33}, {7, 3, 33, 6},
        {101, 1, 99, 99}, {1000, 1000, 99, 990000}, {1000, 1000, 1, 10000}, {1000, 1000, 100, 1000000},
        {1000, 1000, 0, 0}, {999, 999, 33, 329340},
    };

    private static PathReservations paidFor(int[] row, int setting) {
        PathReservations net = Nets.net("hold 1;node a;node b;link a b 1000 " + row[0] + " 2");
        net.setSetting(setting, row[2]);
        net.request(0, 1, row[1], 5);
        return net;
    }

    private static void refund(String what, PathReservations net, int[] row) {
        int price = row[0] * row[1];
        CHECKS.equal(what + ": price", net.ticketValue(0, 6), price);
        CHECKS.equal(what + ": refund of the ticket", net.ticketValue(0, 7), row[3]);
        CHECKS.equal(what + ": refund of the request", net.requestValue(0, 8), row[3]);
        CHECKS.equal(what + ": refunds", net.refunds(), row[3]);
        CHECKS.equal(what + ": revenue", net.revenue(), price - row[3]);
    }

    private static void refundOfExpired() {
        for (int[] row : ROUNDED) {
            PathReservations net = paidFor(row, 3);
            net.advance(1);
            refund("expired " + row[0] + " * " + row[1] + " * " + row[2] + " / 100", net, row);
            CHECKS.equal("cancelled then: nothing more", net.cancel(0), 0);
        }
    }

    private static void refundOfCancelled() {
        for (int[] row : ROUNDED) {
            PathReservations net = paidFor(row, 4);
            CHECKS.equal("the answer", net.cancel(0), row[3]);
            refund("cancelled " + row[0] + " * " + row[1] + " * " + row[2] + " / 100", net, row);
        }
        PathReservations two = Nets.net("cancel 50;node a;node b;node c;link a b 9 1 1;link b c 9 3 1");
        two.request(0, 2, 1, 5);
        two.advance(1);
        CHECKS.equal("each ticket is rounded down alone: 0 + 1", two.cancel(0), 1);
    }

    /** Promise 16: from left to right, every division rounded down. */
    private static void refundOfCancelledActive() {
        int[][] rows = {
            {3, 2, 1, 70, 0}, {3, 2, 0, 70, 2}, {10, 3, 0, 100, 10}, {10, 3, 1, 100, 6}, {10, 3, 2, 100, 3},
            {10, 3, 2, 50, 1}, {10, 4, 3, 50, 1}, {7, 10, 9, 100, 0}, {10, 10, 9, 100, 1}, {10, 10, 9, 99, 0},
            {1000, 1, 0, 99, 990}, {9, 1, 0, 0, 0}, {999, 7, 5, 33, 94},
        };
        for (int[] row : rows) {
            PathReservations net = Nets.net("node a;node b;link a b 1000 " + row[0] + " 1;cancel " + row[3]);
            net.request(0, 1, 1, row[1]);
            net.advance(2 + row[2]);
            String what = row[0] + " * " + (row[1] - row[2]) + " / " + row[1] + " * " + row[3] + " / 100";
            values(what, net, 0, 4, ACTIVE);
            CHECKS.equal(what, net.cancel(0), row[4]);
            values(what, net, 0, 8, row[4], 4, 5, 10, 2, 11, 2 + row[2]);
            CHECKS.equal(what + ": of the ticket", net.ticketValue(0, 7), row[4]);
        }
    }

    /** Promise 13. */
    private static void refundOfBroken() {
        int[][] rows = {{10, 3, 0, 10}, {10, 3, 1, 6}, {10, 3, 2, 3}, {1, 2, 1, 0}, {7, 10, 8, 1}, {7, 10, 9, 0},
            {1000, 7, 6, 142}};
        for (int[] row : rows) {
            PathReservations net = Nets.net("cancel 1;expire 1;node a;node b;link a b 1000 " + row[0] + " 1");
            net.request(0, 1, 1, row[1]);
            net.advance(2 + row[2]);
            CHECKS.equal("one request", net.takeDown(0), 1);
            String what = row[0] + " * " + (row[1] - row[2]) + " / " + row[1];
            values(what, net, 0, 8, row[3], 4, 6, 6, -1, 10, 2, 11, 2 + row[2], 5, 0, 12, -1, 9, 0);
            CHECKS.equal(what + ": of the ticket", net.ticketValue(0, 7), row[3]);
            CHECKS.equal(what + ": it is released", net.ticketValue(0, 5), 3);
            CHECKS.equal(what + ": no attempt failed", net.linkValue(0, 7), 0);
        }
        PathReservations two = Nets.net("node a;node b;node c;link a b 9 1 1;link b c 9 3 1");
        two.request(0, 2, 1, 2);
        two.advance(5);
        two.takeDown(1);
        values("each ticket alone: 1 * 1 / 2 and 3 * 1 / 2", two, 0, 8, 1);
    }

    /** The whole price, whatever the settings are. */
    private static void refundOfFailed() {
        for (int price : new int[] {0, 1, 99, 100, 101, 1000}) {
            PathReservations net = Nets.net("expire 0;cancel 0;tries 1;node a;node b;node c;link a b 1000 " + price
                + " 1;link b c 999 7 1");
            net.request(0, 2, 1000, 5);
            net.advance(1);
            values("price " + price, net, 0, 4, FAILED, 7, 1000 * price, 8, 1000 * price, 12, 1);
            CHECKS.equal("of the ticket", net.ticketValue(0, 7), 1000 * price);
        }
    }

    private static void refundOfDone() {
        PathReservations net = Nets.net("expire 100;cancel 100;node a;node b;link a b 1000 1000 1");
        net.request(0, 1, 1000, 1);
        net.advance(3);
        values("done", net, 0, 4, DONE, 7, 1000000, 8, 0);
        CHECKS.equal("released without a refund", net.ticketValue(0, 7), 0);
        CHECKS.equal("released", net.ticketValue(0, 5), 3);
        CHECKS.equal("done can't be cancelled", net.cancel(0), -3);
        CHECKS.equal("nothing is refunded", net.refunds(), 0);
    }

    // ---- section 5: two things in the same tick

    private static final String MEETING = "node a;node b;node c;link a b 5 1 9;link c a 9 1 5";

    /** The ticket of one request expires at 5, when the message of the other one comes to a. */
    private static void unitsOfExpiredForTheSameTick() {
        for (int first = 0; first < 2; first++) {
            PathReservations net = Nets.net("hold 5;" + MEETING);
            net.request(first == 0 ? 0 : 2, 1, 5, 3);
            net.request(first == 0 ? 2 : 0, 1, 5, 3);
            net.advance(5);
            values("the units are free, order " + first, net, 1 - first, 4, FORWARD, 5, 0, 6, 14);
            PathReservations late = Nets.net("hold 6;" + MEETING);
            late.request(first == 0 ? 0 : 2, 1, 5, 3);
            late.request(first == 0 ? 2 : 0, 1, 5, 3);
            late.advance(5);
            values("a tick later is too late, order " + first, late, 1 - first, 4, WAITING, 12, 0);
        }
    }

    /** One request ends at 5, when the message or the next attempt of the other one is due. */
    private static void unitsOfDoneForTheSameTick() {
        String text = "node a;node b;node c;link a b 5 1 1;link c a 9 1 5";
        for (int first = 0; first < 2; first++) {
            for (int duration = 3; duration <= 4; duration++) {
                PathReservations net = Nets.net(text);
                net.request(first == 0 ? 0 : 2, 1, 5, duration);
                net.request(first == 0 ? 2 : 0, 1, 5, duration);
                net.advance(5);
                boolean free = duration == 3;
                values("end " + (2 + duration) + ", order " + first, net, first, 4, free ? DONE : ACTIVE);
                values("message at 5, order " + first, net, 1 - first, 4, free ? FORWARD : WAITING);
            }
        }
        PathReservations next = Nets.net("retry 3;node a;node b;link a b 5 2 1;link a b 0 1 1");
        next.takeDown(1);
        next.request(0, 1, 5, 1);
        next.bringUp(1);
        next.request(0, 1, 5, 1);
        values("it failed at the cheaper link", next, 1, 4, WAITING, 6, 3, 12, 1);
        next.advance(3);
        values("done at 3", next, 0, 4, DONE);
        values("its next attempt at 3", next, 1, 4, FORWARD, 6, 4);
    }

    /** The next attempt of one request and the message of another one want the same units at 5. */
    private static void attemptsAndMessagesInOneOrder() {
        for (int attempt = 0; attempt < 2; attempt++) {
            PathReservations net = Nets.net("node a;node b;node c;link a b 5 2 1;link c a 9 1 5;link a b 0 1 1");
            for (int request = 0; request < 2; request++) {
                if (request == attempt) {
                    net.request(0, 1, 5, 3);
                } else {
                    net.takeDown(2);
                    net.request(2, 1, 5, 3);
                    net.bringUp(2);
                }
            }
            values("its first attempt failed at once", net, attempt, 4, WAITING, 6, 5, 12, 2);
            values("its message comes to a at 5", net, 1 - attempt, 4, FORWARD, 6, 5);
            net.advance(5);
            values("the first request gets them, attempt of " + attempt, net, 0, 4, FORWARD, 6, 6);
            values("the second one does not, attempt of " + attempt, net, 1, 4, WAITING, 6, 10, 12, 0);
        }
    }

    /** What a request gives back serves those behind it in the same tick, not those before it. */
    private static void laterRequestsComeTooLate() {
        String text = "node a;node b;node c;node d;link a b 5 1 1;link b c 0 1 1;link d a 9 1 1";
        for (int first = 0; first < 2; first++) {
            PathReservations net = Nets.net(text);
            net.request(first == 0 ? 0 : 3, first == 0 ? 2 : 1, 5, 1);
            net.request(first == 0 ? 3 : 0, first == 0 ? 1 : 2, 5, 1);
            net.advance(1);
            values("it fails at b, order " + first, net, first, 4, WAITING, 12, 1);
            values("its units at a, order " + first, net, 1 - first, 4, first == 0 ? FORWARD : WAITING);
        }
    }

    /** In the tick in which the message comes back, the ticket expires first. */
    private static void expiryBeforeTheMessage() {
        PathReservations net = Nets.net("hold 4;expire 10;retry 50;node a;node b;link a b 9 25 4");
        net.request(0, 1, 3, 5);
        net.advance(3);
        values("a tick before", net, 0, 4, FORWARD, 8, 0);
        net.advance(1);
        values("expired, not confirmed", net, 0, 4, WAITING, 5, 1, 6, 54, 7, 75, 8, 7, 12, 0);
        CHECKS.equal("it is no released ticket", net.ticketValue(0, 5), 2);
        CHECKS.equal("75 * 10 / 100", net.ticketValue(0, 7), 7);
        CHECKS.equal("none is released", net.ticketsInState(3), 0);
    }

    private static void downAndUpBeforeTheMessage() {
        PathReservations net = Nets.triangle();
        net.request(0, 2, 1, 5);
        CHECKS.equal("nobody has a ticket there", net.takeDown(1), 0);
        net.bringUp(1);
        net.advance(3);
        values("nobody has seen it", net, 0, 4, FORWARD, 5, 0);
        PathReservations late = Nets.triangle();
        late.request(0, 2, 1, 5);
        late.advance(2);
        late.takeDown(1);
        late.advance(1);
        values("seen at 3", late, 0, 4, WAITING, 12, 1);
        late.bringUp(1);
        values("too late", late, 0, 4, WAITING);
        PathReservations back = Nets.net("hold 4;" + Nets.TRIANGLE);
        back.request(0, 2, 1, 5);
        back.advance(4);
        CHECKS.equal("its ticket has expired", back.takeDown(0), 0);
        values("so it goes on", back, 0, 4, FORWARD);
        back.advance(3);
        values("until it is back", back, 0, 4, WAITING, 12, 0, 5, 1);
    }

    // ---- 500 tickets, 40 requests

    /** Nine attempts with ten tickets each for a request from a to l. */
    private static PathReservations manyTickets(int requests) {
        PathReservations net = Nets.net("tries 9;retry 1;" + Nets.line(11, "9 1 1") + ";node l" + ";link k l 0 1 1".repeat(13));
        for (int i = 0; i < requests; i++) {
            net.request(0, 11, 9, 1);
            net.advance(100);
        }
        CHECKS.equal("90 tickets each", net.ticketCount(), 90 * requests);
        return net;
    }

    private static PathReservations with489Tickets() {
        PathReservations net = manyTickets(5);
        for (int i = 0; i < 4; i++) {
            net.request(0, i < 3 ? 10 : 9, 1, 100);
            net.advance(50);
        }
        CHECKS.equal("10 + 10 + 10 + 9 tickets more", net.ticketCount(), 489);
        return net;
    }

    private static void lastTicket() {
        PathReservations net = with489Tickets();
        net.request(0, 10, 1, 100);
        net.advance(9);
        CHECKS.equal("499 tickets", net.ticketCount(), 499);
        net.saveSnapshot(0);
        net.request(0, 1, 1, 100);
        values("the last one was issued", net, 10, 4, FORWARD);
        net.request(0, 1, 1, 100);
        values("no more", net, 11, 4, WAITING, 5, 1, 7, 0, 12, 0);
        CHECKS.equal("500 tickets", net.ticketCount(), 500);
        CHECKS.equal("number 499", net.ticketValue(499, 0), 10);
        CHECKS.index("no number 500", () -> net.ticketValue(500, 0));
        CHECKS.equal("no new one becomes active", net.ticksForNew(0, 1, 1), -1);
        CHECKS.equal("with however few units", net.greatestNew(0, 1), -1);
        net.advance(1);
        values("who has all tickets goes back", net, 9, 4, BACK, 5, 0);
        net.restoreSnapshot(0);
        CHECKS.equal("499 again", net.ticketCount(), 499);
        CHECKS.equal("a new one becomes active", net.ticksForNew(0, 1, 1), 2);
        CHECKS.equal("with one link only", net.ticksForNew(0, 2, 1), -1);
        net.request(0, 1, 1, 100);
        values("issued again", net, 10, 4, FORWARD);
    }

    /** Two messages in the same tick: the first request gets the last ticket. */
    private static void lastTicketForTwo() {
        PathReservations net = with489Tickets();
        net.request(0, 10, 1, 100);
        net.advance(8);
        net.request(0, 2, 1, 100);
        CHECKS.equal("499 tickets", net.ticketCount(), 499);
        net.advance(1);
        CHECKS.equal("500 tickets", net.ticketCount(), 500);
        CHECKS.equal("the last one", net.ticketValue(499, 0), 9);
        values("on its way", net, 9, 4, FORWARD, 5, 0);
        values("too late", net, 10, 4, WAITING, 5, 1, 12, 1);
        CHECKS.equal("its first ticket is released", net.ticketValue(498, 5), 3);
    }

    private static void fiveHundredTickets() {
        PathReservations net = manyTickets(5);
        net.request(0, 11, 9, 1);
        net.advance(53);
        CHECKS.equal("500 tickets", net.ticketCount(), 500);
        values("the message is on its way", net, 5, 4, FORWARD, 5, 4, 6, net.time() + 1);
        CHECKS.equal("ten are held", net.ticketsOf(5, 0), 10);
        net.setCapacity(14, 9);
        net.advance(1);
        values("units, but no ticket", net, 5, 4, WAITING, 5, 5, 12, 14);
        CHECKS.equal("all were released", net.ticketsOf(5, 3), 50);
        CHECKS.equal("available", net.linkValue(14, 6), 9);
        CHECKS.equal("the failure counts", net.linkValue(14, 7), 6);
        Nets.load(net, Nets.TRIANGLE);
        net.request(0, 2, 1, 1);
        CHECKS.equal("a new text gives new tickets", net.ticketCount(), 1);
    }

    private static void fortyRequests() {
        PathReservations net = Nets.triangle();
        for (int i = 0; i < 39; i++) {
            CHECKS.equal("request " + i, net.request(i % 2, 2, 1 + i, 1 + i), i);
        }
        net.saveSnapshot(0);
        CHECKS.equal("39", net.requestCount(), 39);
        CHECKS.equal("the last one", net.request(0, 2, 1, 7), 39);
        values("its duration", net, 39, 3, 7);
        CHECKS.equal("no 41st", net.request(0, 2, 1, 7), -2);
        CHECKS.equal("40", net.requestCount(), 40);
        CHECKS.index("no number 40", () -> net.requestValue(40, 0));
        net.restoreSnapshot(0);
        CHECKS.equal("39 again", net.requestCount(), 39);
        CHECKS.index("no number 39", () -> net.requestValue(39, 0));
        CHECKS.equal("another last one", net.request(1, 2, 1, 8), 39);
        values("its source and duration", net, 39, 0, 1, 3, 8);
        CHECKS.equal("no 41st again", net.request(0, 2, 1, 7), -2);
        net.advance(1000);
        CHECKS.equal("all are over", net.nextEvent(), -1);
        CHECKS.equal("those that are over count", net.request(0, 2, 1, 7), -2);
        Nets.load(net, Nets.TRIANGLE);
        CHECKS.equal("a new text begins anew", net.request(0, 2, 1, 7), 0);
    }
}
