/** Promises 15 to 26: requests and time, with sections 3 to 5 of the document. */
public final class RequestTest {
    private static final Checks CHECKS = new Checks("RequestTest");
    private static final int[] LEAST_TO_GREATEST = {Integer.MIN_VALUE, -1, Integer.MAX_VALUE};

    private RequestTest() {
    }

    public static void main(String[] args) {
        request();
        requestWrongly();
        requestUntilFull();
        firstPathByPrice();
        firstPathByLength();
        firstPathByNumbers();
        thereAndBack();
        expiryOnTheWay();
        expiryAtTheLastTick();
        noPath();
        notEnoughUnits();
        downOnTheWay();
        lastTry();
        triesOnceLowered();
        fullOfTickets();
        orderInATick();
        orderOfRequests();
        cancel();
        cancelActive();
        cancelOthers();
        cancelWithoutOverflow();
        extend();
        advance();
        requestValue();
        paths();
        placeOf();
        inState();
        CHECKS.end();
    }

    private static void values(String what, PathReservations net, int request, int... due) {
        for (int i = 0; i + 1 < due.length; i += 2) {
            CHECKS.equal(what + ": value " + due[i] + " of request " + request,
                net.requestValue(request, due[i]), due[i + 1]);
        }
    }

    /** Promise 15. */
    private static void request() {
        PathReservations net = Nets.triangle();
        CHECKS.equal("first request", net.request(Nets.A, Nets.C, 6, 10), 0);
        values("it goes forward", net, 0, 0, 0, 1, 2, 2, 6, 3, 10, 4, 0, 5, 0, 6, 3, 7, 12, 8, 0, 9, 0,
            10, -1, 11, -1, 12, -1);
        CHECKS.equal("its ticket", net.ticketCount(), 1);
        CHECKS.equal("no way", net.request(Nets.C, Nets.A, 1, 1), 1);
        values("it failed for good", net, 1, 4, 4, 5, 0, 6, -1, 9, 0, 10, -1, 11, -1, 12, -1);
        CHECKS.equal("too many units", net.request(Nets.A, Nets.C, 1000, 10000), 2);
        values("it waits", net, 2, 4, 7, 5, 1, 6, 5, 9, 1, 12, 0, 7, 0);
        CHECKS.equal("one unit for one tick", net.request(Nets.B, Nets.C, 1, 1), 3);
        CHECKS.equal("others are not touched", net.requestValue(0, 6), 3);
    }

    private static void requestWrongly() {
        PathReservations net = Nets.triangle();
        for (int node : new int[] {3, -1, Integer.MAX_VALUE, Integer.MIN_VALUE}) {
            CHECKS.index("source " + node, () -> net.request(node, 0, 1, 1));
            CHECKS.index("target " + node, () -> net.request(0, node, 1, 1));
            CHECKS.index("both " + node, () -> net.request(node, node, 0, 0));
        }
        CHECKS.argument("the same node", () -> net.request(1, 1, 1, 1));
        CHECKS.argument("0 units", () -> net.request(0, 1, 0, 1));
        CHECKS.argument("1001 units", () -> net.request(0, 1, 1001, 1));
        CHECKS.argument("duration 0", () -> net.request(0, 1, 1, 0));
        CHECKS.argument("duration 10001", () -> net.request(0, 1, 1, 10001));
        CHECKS.equal("no request was made", net.requestCount(), 0);
        CHECKS.index("no nodes", () -> new PathReservations().request(0, 0, 1, 1));
    }

    private static void requestUntilFull() {
        PathReservations net = Nets.triangle();
        for (int i = 0; i < 40; i++) {
            CHECKS.equal("request " + i, net.request(Nets.A, Nets.B, 1, 10000), i);
        }
        int tickets = net.ticketCount();
        CHECKS.equal("a 41st one", net.request(Nets.A, Nets.C, 1, 1), -2);
        CHECKS.equal("there are 40", net.requestCount(), 40);
        CHECKS.equal("no ticket more", net.ticketCount(), tickets);
        CHECKS.argument("exceptions come first", () -> net.request(0, 0, 1, 1));
        CHECKS.index("of the nodes too", () -> net.request(0, 3, 1, 1));
        net.advance(1000);
        CHECKS.equal("done or not", net.request(Nets.A, Nets.C, 1, 1), -2);
    }

    /** Section 3: the order of paths; section 4: excluded links. */
    private static void firstPathByPrice() {
        PathReservations net = Nets.net("node a;node b;node c;node d;link a d 0 10 1;link a b 9 3 1;"
            + "link b c 9 3 1;link c d 9 3 1");
        path("cheaper, but longer", net, net.request(0, 3, 5, 5), 1, 2, 3);
        CHECKS.equal("available units play no part", net.request(1, 3, 50, 5), 1);
        path("too few units", net, 1, 2, 3);
        CHECKS.equal("it failed", net.requestValue(1, 4), 7);
        CHECKS.equal("another one", net.request(0, 3, 50, 5), 2);
        path("the same path", net, 2, 1, 2, 3);
        net.advance(5);
        path("then the other one", net, 2, 0);
        net.advance(5);
        CHECKS.equal("then none", net.requestValue(2, 4), 4);
        path("the latest path stays", net, 2, 0);
    }

    private static void firstPathByLength() {
        PathReservations net = Nets.net("node a;node b;node c;node d;link a b 9 1 1;link b c 9 1 1;link c d 9 1 1;"
            + "link b d 9 2 50");
        path("fewer links of the same price", net, net.request(0, 3, 1, 1), 0, 3);
        PathReservations free = Nets.net("node a;node b;node c;link a b 9 0 1;link b c 9 0 1;link a c 9 0 50");
        path("free links count, too", free, free.request(0, 2, 1, 1), 2);
        free.takeDown(2);
        path("links that are down do not", free, free.request(0, 2, 1, 1), 0, 1);
        PathReservations dear = Nets.net(Nets.line(12, "9 0 1") + ";link a l 9 1 1");
        path("eleven free links", dear, dear.request(0, 11, 1, 1), 0, 1, 2, 3, 4, 5, 6, 7, 8, 9, 10);
    }

    private static void firstPathByNumbers() {
        PathReservations net = Nets.net("node a;node b;node c;node d;link c d 9 1 1;link b d 9 2 1;"
            + "link a c 9 2 1;link a b 9 1 1;link a b 9 1 1;link b d 9 2 1");
        path("the lower second number wins nothing", net, net.request(0, 3, 1, 1), 2, 0);
        net.takeDown(2);
        path("the lower of two links", net, net.request(0, 3, 1, 1), 3, 1);
        net.takeDown(3);
        net.takeDown(1);
        path("the higher ones", net, net.request(0, 3, 1, 1), 4, 5);
    }

    private static void path(String what, PathReservations net, int request, int... links) {
        CHECKS.equal(what + ": length", net.pathLength(request), links.length);
        for (int i = 0; i < links.length; i++) {
            CHECKS.equal(what + ": link " + i, net.pathLink(request, i), links[i]);
        }
        CHECKS.equal(what + ": end", net.pathLink(request, links.length), -1);
    }

    /** Section 4: a request that gets all that it wants. */
    private static void thereAndBack() {
        PathReservations net = Nets.triangle();
        int r = net.request(Nets.A, Nets.C, 6, 10);
        int[][] due = {
            {0, 0, 3, 1, 12, -1, -1}, {0, 0, 3, 1, 12, -1, -1}, {0, 0, 3, 1, 12, -1, -1},
            {0, 0, 5, 2, 18, -1, -1}, {0, 0, 5, 2, 18, -1, -1}, {1, 0, 7, 1, 18, -1, -1},
            {1, 0, 7, 1, 18, -1, -1}, {1, 0, 10, 0, 18, -1, -1}, {1, 0, 10, 0, 18, -1, -1},
            {1, 0, 10, 0, 18, -1, -1}, {2, 0, -1, -1, 18, 10, 20}, {2, 0, -1, -1, 18, 10, 20},
        };
        for (int time = 0; time < due.length; time++) {
            String what = "at " + time;
            values(what, net, r, 4, due[time][0], 5, due[time][1], 6, due[time][2], 7, due[time][4],
                10, due[time][5], 11, due[time][6], 8, 0);
            CHECKS.equal(what + ": place", net.placeOf(r), due[time][3]);
            CHECKS.equal(what + ": tickets", net.ticketCount(), time < 3 ? 1 : 2);
            CHECKS.equal(what + ": confirmed", net.ticketsInState(1), time < 5 ? 0 : time < 7 ? 1 : 2);
            net.advance(1);
        }
        net.advance(7);
        values("at 19", net, r, 4, 2);
        net.advance(1);
        values("at 20", net, r, 4, 3, 6, -1, 7, 18, 8, 0, 10, 10, 11, 20);
        CHECKS.equal("released", net.ticketsOf(r, 3), 2);
        CHECKS.equal("all available again", net.linkValue(0, 6) + net.linkValue(1, 6), 18);
        CHECKS.equal("kept", net.revenue(), 18);
    }

    private static void expiryOnTheWay() {
        PathReservations net = Nets.net("hold 7;expire 30;" + Nets.TRIANGLE);
        int r = net.request(Nets.A, Nets.C, 6, 10);
        net.advance(6);
        values("before", net, r, 4, 1, 8, 0);
        net.advance(1);
        values("it expires first", net, r, 4, 7, 5, 1, 6, 12, 7, 18, 8, 9, 9, 1, 12, 0, 10, -1, 11, -1);
        CHECKS.equal("expired", net.ticketValue(0, 5), 2);
        CHECKS.equal("12 * 30 / 100", net.ticketValue(0, 7), 3);
        CHECKS.equal("the other one was confirmed", net.ticketValue(1, 5), 3);
        CHECKS.equal("refunded whole", net.ticketValue(1, 7), 6);
        CHECKS.equal("one failed there", net.linkValue(0, 7), 1);
        CHECKS.equal("none there", net.linkValue(1, 7), 0);
        CHECKS.equal("nothing promised", net.linkValue(0, 5) + net.linkValue(1, 5), 0);
        net.advance(5);
        values("the link with 5 units", net, r, 4, 7, 5, 2, 6, 17, 9, 5, 12, 2);
        net.advance(5);
        values("no link is left", net, r, 4, 4, 5, 2, 6, -1, 9, 5, 12, 2, 11, -1);
        CHECKS.equal("the latest path", net.pathLink(r, 0), 2);
        CHECKS.equal("it had one link", net.pathLength(r), 1);
    }

    private static void expiryAtTheLastTick() {
        PathReservations net = Nets.net("hold 8;" + Nets.TRIANGLE);
        int r = net.request(Nets.A, Nets.C, 6, 10);
        net.advance(10);
        values("8 ticks are enough", net, r, 4, 2, 8, 0);
        net.advance(9);
        values("confirmed tickets do not expire", net, r, 4, 2, 8, 0);
        PathReservations late = Nets.net("hold 2;node a;node b;node c;link a b 9 5 1;link b c 9 7 1");
        late.request(0, 2, 1, 9);
        late.advance(2);
        CHECKS.equal("expired unnoticed", late.ticketsInState(2), 1);
        values("it goes back", late, 0, 4, 1, 8, 2);
        late.advance(1);
        values("it comes there", late, 0, 4, 7, 12, 0, 8, 9);
    }

    private static void noPath() {
        PathReservations net = Nets.triangle();
        net.takeDown(0);
        net.takeDown(2);
        int r = net.request(Nets.A, Nets.C, 1, 10);
        values("all down", net, r, 4, 4, 5, 0, 6, -1, 7, 0, 9, 0, 12, -1);
        CHECKS.equal("no path at all", net.pathLength(r), 0);
        CHECKS.equal("no link", net.pathLink(r, 0), -1);
        net.bringUp(2);
        net.advance(50);
        values("it stays failed", net, r, 4, 4);
    }

    private static void notEnoughUnits() {
        PathReservations net = Nets.triangle();
        int exact = net.request(Nets.B, Nets.C, 8, 1);
        values("all that there are", net, exact, 4, 0, 6, 2);
        int more = net.request(Nets.A, Nets.C, 1, 1);
        values("on its way", net, more, 4, 0, 6, 3);
        net.advance(3);
        values("none is left at b", net, more, 4, 7, 5, 1, 6, 8, 7, 2, 8, 2, 9, 2, 12, 1);
        CHECKS.equal("failed there", net.linkValue(1, 7), 1);
        CHECKS.equal("its ticket was released", net.ticketValue(1, 5), 3);
        net.advance(5);
        values("the other way", net, more, 4, 0, 6, 12, 7, 11, 8, 2);
        net.advance(8);
        values("active", net, more, 4, 2, 10, 16, 11, 17, 5, 1);
    }

    private static void downOnTheWay() {
        PathReservations net = Nets.triangle();
        int r = net.request(Nets.A, Nets.C, 1, 10);
        CHECKS.equal("nobody is there yet", net.takeDown(1), 0);
        net.advance(2);
        values("it does not know", net, r, 4, 0, 5, 0);
        net.advance(1);
        values("it fails there", net, r, 4, 7, 12, 1, 6, 8);
        net.bringUp(1);
        net.advance(5);
        CHECKS.equal("excluded though it is up", net.pathLink(r, 0), 2);
    }

    private static void lastTry() {
        String text = "node a;node b" + ";link a b 0 1 1".repeat(12);
        for (int tries : new int[] {1, 2, 9}) {
            PathReservations net = Nets.net("retry 3;tries " + tries + ";" + text);
            int r = net.request(0, 1, 1, 1);
            for (int i = 1; i < tries; i++) {
                values("failure " + i, net, r, 4, 7, 5, i, 6, 3 * i, 12, i - 1);
                net.advance(3);
            }
            values("failure " + tries, net, r, 4, 4, 5, tries, 6, -1, 9, (1 << tries) - 1, 12, tries - 1);
            CHECKS.equal("nothing more happens", net.nextEvent(), -1);
        }
    }

    private static void triesOnceLowered() {
        PathReservations net = Nets.net("tries 9;node a;node b" + ";link a b 0 1 1".repeat(12));
        int r = net.request(0, 1, 1, 1);
        net.advance(5);
        net.setSetting(2, 1);
        values("two failures and still waiting", net, r, 4, 7, 5, 2);
        net.setCapacity(2, 1);
        net.advance(7);
        values("its attempt is made", net, r, 4, 2, 5, 2);
    }

    /** Section 3: at most 500 tickets. */
    private static void fullOfTickets() {
        StringBuilder text = new StringBuilder("tries 9;retry 1;" + Nets.line(11, "9 1 1") + ";node l");
        text.append(";link k l 0 1 1".repeat(13));
        PathReservations net = Nets.net(text.toString());
        for (int i = 0; i < 5; i++) {
            net.request(0, 11, 9, 1);
            net.advance(100);
            CHECKS.equal("90 tickets a request", net.ticketCount(), 90 * (i + 1));
        }
        int r = net.request(0, 11, 9, 1);
        net.advance(52);
        CHECKS.equal("499 tickets", net.ticketCount(), 499);
        net.advance(1);
        CHECKS.equal("500 tickets", net.ticketCount(), 500);
        values("the last one was issued", net, r, 4, 0, 5, 4);
        net.advance(1);
        values("it failed at the empty link", net, r, 4, 7, 5, 5, 12, 14);
        net.advance(1);
        values("no ticket is left", net, r, 4, 7, 5, 6, 12, 0);
        CHECKS.equal("though there are units", net.linkValue(0, 6), 9);
        net.advance(1);
        values("no path without it", net, r, 4, 4, 5, 6);
        CHECKS.equal("no ticket for others either", net.request(0, 1, 1, 1), 6);
        values("it fails", net, 6, 4, 7, 12, 0);
        CHECKS.equal("500 tickets", net.ticketCount(), 500);
        CHECKS.equal("all was refunded", net.revenue(), 0);
        CHECKS.equal("all is refunded", net.refunds(), 4500);
    }

    /** Section 5: first tickets expire, then requests end, then messages are treated. */
    private static void orderInATick() {
        PathReservations end = Nets.net("node a;node b;node c;link a b 5 1 1;link c a 9 1 5");
        end.request(0, 1, 5, 3);
        end.request(2, 1, 5, 3);
        end.advance(4);
        values("active", end, 0, 4, 2, 11, 5);
        end.advance(1);
        values("it ends", end, 0, 4, 3);
        values("before the message comes", end, 1, 4, 0, 6, 6);
        PathReservations expiry = Nets.net("hold 5;node a;node b;node c;link a b 5 1 9;link c a 9 1 5");
        expiry.request(0, 1, 5, 3);
        expiry.request(2, 1, 5, 3);
        expiry.advance(5);
        CHECKS.equal("it expires", expiry.ticketValue(0, 5), 2);
        values("before the message comes", expiry, 1, 4, 0, 6, 14);
    }

    /** Section 5: in the order of the requests, whoever set out first. */
    private static void orderOfRequests() {
        PathReservations net = Nets.net("node a;node b;node c;link a b 5 1 1;link c a 20 1 5;link c a 20 9 3");
        net.request(2, 1, 5, 3);
        net.takeDown(1);
        net.bringUp(1);
        values("the first one waits", net, 0, 4, 7, 6, 5);
        net.advance(3);
        net.request(2, 1, 5, 3);
        net.advance(4);
        values("the first one is on its way", net, 0, 4, 0, 6, 8);
        net.advance(1);
        values("both come at 8", net, 0, 4, 0, 6, 9);
        values("too late", net, 1, 4, 7, 12, 0);
        PathReservations freed = Nets.net("node a;node b;node c;node d;link a b 5 1 1;link b c 0 1 1;link d a 9 1 1");
        freed.request(0, 2, 5, 1);
        freed.request(3, 1, 5, 1);
        freed.advance(1);
        values("the first one fails at c", freed, 0, 4, 7, 12, 1);
        values("and leaves its units", freed, 1, 4, 0, 6, 2);
        PathReservations kept = Nets.net("node a;node b;node c;node d;link a b 5 1 1;link b c 0 1 1;link d a 9 1 1");
        kept.request(3, 1, 5, 1);
        kept.request(0, 2, 5, 1);
        kept.advance(1);
        values("too early for them", kept, 0, 4, 7, 12, 0);
    }

    /** Promise 16. */
    private static void cancel() {
        PathReservations net = Nets.triangle();
        net.request(Nets.A, Nets.C, 7, 10);
        net.advance(4);
        CHECKS.equal("14 * 80 / 100 and 7 * 80 / 100", net.cancel(0), 11 + 5);
        values("cancelled", net, 0, 4, 5, 6, -1, 7, 21, 8, 16, 10, -1, 11, 4);
        CHECKS.equal("released", net.ticketsOf(0, 3), 2);
        CHECKS.equal("refunded for a ticket", net.ticketValue(0, 7), 11);
        CHECKS.equal("available", net.linkValue(0, 6), 10);
        CHECKS.equal("only once", net.cancel(0), -3);
        CHECKS.equal("unchanged", net.requestValue(0, 11), 4);
        CHECKS.equal("no event", net.nextEvent(), -1);
        net.request(Nets.A, Nets.C, 7, 10);
        net.advance(6);
        net.setSetting(4, 0);
        CHECKS.equal("going back, no refund", net.cancel(1), 0);
        values("cancelled", net, 1, 4, 5, 8, 0, 11, 10);
        net.request(Nets.A, Nets.C, 9, 10);
        net.setSetting(4, 100);
        net.advance(3);
        values("waiting", net, 2, 4, 7, 8, 18);
        CHECKS.equal("waiting: no tickets", net.cancel(2), 0);
        values("cancelled", net, 2, 4, 5, 6, -1, 8, 18, 10, -1, 11, 13);
        net.request(Nets.A, Nets.C, 7, 10);
        CHECKS.equal("all", net.cancel(3), 14);
        CHECKS.index("request 4", () -> net.cancel(4));
        CHECKS.index("request -1", () -> net.cancel(-1));
    }

    private static void cancelActive() {
        PathReservations net = Nets.net("cancel 90;node a;node b;node c;link a b 50 3 1;link b c 50 7 1");
        net.request(0, 2, 5, 7);
        net.advance(6);
        values("active", net, 0, 4, 2, 10, 4, 11, 11);
        CHECKS.equal("15 * 5 / 7 * 90 / 100 and 35 * 5 / 7 * 90 / 100", net.cancel(0), 9 + 22);
        CHECKS.equal("for the first ticket", net.ticketValue(0, 7), 9);
        CHECKS.equal("for the second ticket", net.ticketValue(1, 7), 22);
        values("cancelled", net, 0, 4, 5, 8, 31, 10, 4, 11, 6);
        net.request(0, 1, 7, 3);
        net.advance(2);
        CHECKS.equal("at its beginning: 21 * 3 / 3 * 90 / 100", net.cancel(1), 18);
    }

    private static void cancelOthers() {
        PathReservations net = Nets.net("tries 1;expire 10;hold 3;node a;node b;node c;link a b 50 3 1;link b c 50 7 1;"
            + "link c a 0 1 1");
        net.request(0, 1, 5, 1);
        net.request(0, 1, 5, 50);
        net.request(2, 0, 5, 5);
        net.request(0, 2, 9, 5);
        net.advance(3);
        CHECKS.equal("done", net.cancel(0), -3);
        CHECKS.equal("failed for good", net.cancel(2), -3);
        CHECKS.equal("failed when it came back", net.requestValue(3, 4), 4);
        int late = net.request(0, 2, 9, 5);
        net.advance(1);
        net.takeDown(0);
        CHECKS.equal("broken", net.cancel(1), -3);
        CHECKS.equal("failed by the link", net.cancel(late), -3);
        net.bringUp(0);
        net.setSetting(0, 1);
        late = net.request(0, 2, 9, 5);
        net.advance(1);
        CHECKS.equal("one has expired: 27 * 10 / 100", net.requestValue(late, 8), 2);
        CHECKS.equal("refunds the other one alone: 63 * 80 / 100", net.cancel(late), 50);
        values("both", net, late, 4, 5, 8, 52);
        CHECKS.equal("expired stays expired", net.ticketsOf(late, 2), 1);
    }

    private static void cancelWithoutOverflow() {
        PathReservations net = Nets.net("cancel 100;node a;node b;link a b 1000 1000 1");
        net.request(0, 1, 1000, 10000);
        net.advance(2);
        net.saveSnapshot(0);
        CHECKS.equal("1000000 * 10000 / 10000", net.cancel(0), 1000000);
        net.restoreSnapshot(0);
        net.advance(1);
        CHECKS.equal("1000000 * 9999 / 10000 * 100 / 100", net.cancel(0), 999900);
        net.restoreSnapshot(0);
        net.setSetting(4, 99);
        net.advance(1);
        CHECKS.equal("999900 * 99 / 100", net.cancel(0), 989901);
        net.restoreSnapshot(0);
        net.advance(1);
        net.takeDown(0);
        CHECKS.equal("broken", net.requestValue(0, 8), 999900);
    }

    /** Promise 17. */
    private static void extend() {
        PathReservations net = Nets.triangle();
        net.request(Nets.A, Nets.C, 6, 10);
        net.request(Nets.A, Nets.C, 1, 10);
        net.advance(4);
        CHECKS.equal("two are held", net.extend(0), 2);
        CHECKS.equal("the first one", net.ticketValue(0, 4), 24);
        CHECKS.equal("the second one", net.ticketValue(2, 4), 24);
        CHECKS.equal("another request's", net.ticketValue(1, 4), 20);
        net.setSetting(0, 3);
        CHECKS.equal("that is not later", net.extend(0), 2);
        CHECKS.equal("so it stays", net.ticketValue(0, 4), 24);
        net.setSetting(0, 20);
        CHECKS.equal("the same time", net.extend(0), 2);
        net.advance(2);
        CHECKS.equal("one is confirmed", net.extend(0), 1);
        CHECKS.equal("it keeps its expiry", net.ticketValue(2, 4), 24);
        CHECKS.equal("the held one does not", net.ticketValue(0, 4), 26);
        net.advance(4);
        CHECKS.equal("active", net.extend(0), 0);
        net.cancel(0);
        CHECKS.equal("cancelled", net.extend(0), 0);
        CHECKS.index("request 2", () -> net.extend(2));
        CHECKS.index("request -1", () -> net.extend(-1));
        PathReservations saved = Nets.net("hold 7;" + Nets.TRIANGLE);
        saved.request(Nets.A, Nets.C, 6, 10);
        saved.advance(1);
        saved.extend(0);
        CHECKS.equal("the expiry moved", saved.nextExpiry(), 8);
        saved.advance(9);
        CHECKS.equal("one tick more is enough", saved.requestValue(0, 4), 2);
    }

    /** Promises 18 and 19. The greatest time can't be reached in 512 calls. */
    private static void advance() {
        PathReservations net = Nets.triangle();
        CHECKS.equal("time 0", net.time(), 0);
        CHECKS.equal("one tick", net.advance(1), 1);
        CHECKS.equal("time 1", net.time(), 1);
        CHECKS.equal("1000 ticks", net.advance(1000), 1001);
        CHECKS.equal("time 1001", net.time(), 1001);
        CHECKS.argument("0 ticks", () -> net.advance(0));
        CHECKS.argument("1001 ticks", () -> net.advance(1001));
        CHECKS.argument("-1 ticks", () -> net.advance(-1));
        for (int ticks : LEAST_TO_GREATEST) {
            CHECKS.argument(ticks + " ticks", () -> net.advance(ticks));
        }
        CHECKS.equal("nothing changed", net.time(), 1001);
        PathReservations once = busy();
        PathReservations often = busy();
        once.advance(60);
        for (int i = 0; i < 60; i++) {
            often.advance(1);
        }
        CHECKS.same("60 ticks at once or one by one", Nets.state(once), Nets.state(often));
    }

    private static PathReservations busy() {
        PathReservations net = Nets.net("hold 11;" + Nets.TRIANGLE);
        net.request(Nets.A, Nets.C, 6, 10);
        net.request(Nets.A, Nets.C, 5, 9);
        net.request(Nets.B, Nets.C, 3, 8);
        net.request(Nets.A, Nets.B, 4, 7);
        return net;
    }

    /** Promises 20 and 21. */
    private static void requestValue() {
        PathReservations net = Nets.triangle();
        CHECKS.equal("none", net.requestCount(), 0);
        CHECKS.index("request 0", () -> net.requestValue(0, 0));
        net.request(Nets.A, Nets.C, 6, 10);
        net.request(Nets.B, Nets.C, 2, 5);
        CHECKS.equal("two", net.requestCount(), 2);
        values("the second one", net, 1, 0, 1, 1, 2, 2, 2, 3, 5, 4, 0, 5, 0, 6, 2, 7, 2, 8, 0, 9, 0, 10, -1, 11, -1,
            12, -1);
        net.cancel(0);
        net.advance(9);
        CHECKS.equal("still two", net.requestCount(), 2);
        values("cancelled", net, 0, 4, 5, 6, -1, 7, 12, 8, 9, 10, -1, 11, 0);
        values("done", net, 1, 4, 3, 6, -1, 10, 4, 11, 9);
        CHECKS.index("request 2", () -> net.requestValue(2, 0));
        CHECKS.index("request -1", () -> net.requestValue(-1, 0));
        CHECKS.argument("what 13", () -> net.requestValue(0, 13));
        CHECKS.argument("what -1", () -> net.requestValue(0, -1));
        CHECKS.index("the request is looked at first", () -> net.requestValue(2, 13));
    }

    /** Promises 22 and 23. */
    private static void paths() {
        PathReservations net = Nets.triangle();
        net.request(Nets.A, Nets.C, 9, 10);
        net.request(Nets.C, Nets.B, 1, 10);
        path("the first attempt", net, 0, 0, 1);
        path("no attempt had a path", net, 1);
        net.advance(8);
        path("the second attempt", net, 0, 2);
        CHECKS.equal("index -1", net.pathLink(0, -1), -1);
        CHECKS.equal("index 10", net.pathLink(0, 10), -1);
        CHECKS.equal("index 11", net.pathLink(0, 11), -1);
        CHECKS.equal("the greatest index", net.pathLink(0, Integer.MAX_VALUE), -1);
        CHECKS.equal("the least index", net.pathLink(0, Integer.MIN_VALUE), -1);
        net.cancel(0);
        path("cancelled", net, 0, 2);
        for (int request : new int[] {2, -1}) {
            CHECKS.index("length of " + request, () -> net.pathLength(request));
            CHECKS.index("link of " + request, () -> net.pathLink(request, 0));
        }
    }

    /** Promise 24. */
    private static void placeOf() {
        PathReservations net = Nets.net("hold 9;" + Nets.line(4, "5 1 2"));
        net.request(0, 3, 5, 5);
        int[] places = {1, 2, 3, 2, 1, -1};
        for (int place : places) {
            CHECKS.equal("place at " + net.time(), net.placeOf(0), place);
            net.advance(2);
        }
        CHECKS.equal("it failed when it came back", net.requestValue(0, 4), 7);
        CHECKS.equal("no place", net.placeOf(0), -1);
        net.request(0, 1, 5, 5);
        CHECKS.equal("on its way", net.placeOf(1), 1);
        net.advance(2);
        CHECKS.equal("back to the source", net.placeOf(1), 0);
        net.advance(2);
        CHECKS.equal("active", net.placeOf(1), -1);
        net.advance(5);
        CHECKS.equal("done", net.placeOf(1), -1);
        net.request(0, 1, 5, 5);
        net.cancel(2);
        CHECKS.equal("cancelled", net.placeOf(2), -1);
        CHECKS.index("request 3", () -> net.placeOf(3));
        CHECKS.index("request -1", () -> net.placeOf(-1));
    }

    /** Promises 25 and 26. */
    private static void inState() {
        PathReservations net = Nets.net("tries 2;node a;node b;node c;link a b 9 1 1;link b c 9 1 4;link b a 0 1 1");
        net.request(0, 1, 2, 30);
        net.request(0, 1, 1, 1);
        net.request(2, 0, 1, 1);
        net.request(0, 1, 1, 5);
        net.cancel(3);
        net.request(1, 2, 1, 60);
        net.request(0, 1, 2, 40);
        net.advance(8);
        net.takeDown(1);
        net.bringUp(1);
        net.request(1, 2, 1, 30);
        net.request(0, 2, 1, 30);
        net.advance(5);
        net.request(1, 2, 3, 5);
        net.request(1, 0, 3, 5);
        net.request(0, 2, 1, 5);
        int[][] due = {{8, 10}, {6, 7}, {0, 5}, {1}, {2}, {3}, {4}, {9}};
        for (int state = 0; state < due.length; state++) {
            CHECKS.equal("in state " + state, net.inState(state), due[state].length);
            for (int i = 0; i < 12; i++) {
                int request = i < due[state].length ? due[state][i] : -1;
                CHECKS.equal("request " + i + " in state " + state, net.requestInState(state, i), request);
            }
            CHECKS.equal("index -1 in state " + state, net.requestInState(state, -1), -1);
        }
        for (int state : new int[] {8, -1, Integer.MAX_VALUE}) {
            CHECKS.argument("state " + state, () -> net.inState(state));
            CHECKS.argument("request in state " + state, () -> net.requestInState(state, 0));
        }
        CHECKS.equal("none in a new one", new PathReservations().inState(7), 0);
        CHECKS.equal("no request in a new one", new PathReservations().requestInState(7, 0), -1);
    }
}
