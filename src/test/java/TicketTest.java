/** Promises 27 to 36: tickets and money. */
public final class TicketTest {
    private static final Checks CHECKS = new Checks("TicketTest");

    private TicketTest() {
    }

    public static void main(String[] args) {
        ticketValue();
        ticketStates();
        ticketOn();
        ticketsOf();
        money();
        moneyOfGreatNumbers();
        nextExpiry();
        nextEvent();
        nextEventOfEachKind();
        isSafe();
        CHECKS.end();
    }

    private static void ticket(PathReservations net, int ticket, int... due) {
        for (int what = 0; what < due.length; what++) {
            CHECKS.equal("at " + net.time() + ": value " + what + " of ticket " + ticket,
                net.ticketValue(ticket, what), due[what]);
        }
    }

    /** Promises 27 and 28. */
    private static void ticketValue() {
        PathReservations net = Nets.triangle();
        CHECKS.equal("none", net.ticketCount(), 0);
        CHECKS.index("ticket 0", () -> net.ticketValue(0, 0));
        net.request(Nets.A, Nets.C, 6, 10);
        net.request(Nets.C, Nets.A, 6, 10);
        net.request(Nets.B, Nets.C, 1, 10);
        CHECKS.equal("two", net.ticketCount(), 2);
        ticket(net, 0, 0, 0, 6, 0, 20, 0, 12, 0);
        ticket(net, 1, 2, 1, 1, 0, 20, 0, 1, 0);
        net.advance(3);
        CHECKS.equal("three", net.ticketCount(), 3);
        ticket(net, 2, 0, 1, 6, 3, 23, 0, 6, 0);
        ticket(net, 1, 2, 1, 1, 0, 20, 1, 1, 0);
        net.cancel(0);
        CHECKS.equal("still three", net.ticketCount(), 3);
        ticket(net, 0, 0, 0, 6, 0, 20, 3, 12, 9);
        ticket(net, 2, 0, 1, 6, 3, 23, 3, 6, 4);
        net.advance(30);
        ticket(net, 1, 2, 1, 1, 0, 20, 3, 1, 0);
        CHECKS.index("ticket 3", () -> net.ticketValue(3, 0));
        CHECKS.index("ticket -1", () -> net.ticketValue(-1, 0));
        CHECKS.argument("what 8", () -> net.ticketValue(0, 8));
        CHECKS.argument("what -1", () -> net.ticketValue(0, -1));
        CHECKS.index("the ticket is looked at first", () -> net.ticketValue(3, 8));
    }

    private static void states(PathReservations net, int... due) {
        for (int state = 0; state < due.length; state++) {
            CHECKS.equal("at " + net.time() + ": tickets in state " + state, net.ticketsInState(state), due[state]);
        }
    }

    /** Promise 30; sections 3 to 5: expiry. */
    private static void ticketStates() {
        PathReservations net = Nets.net("hold 5;expire 33;node a;node b;node c;link a b 9 7 1;link b c 9 2 4");
        states(net, 0, 0, 0, 0);
        net.request(0, 2, 3, 8);
        states(net, 1, 0, 0, 0);
        net.request(0, 1, 4, 8);
        net.advance(1);
        states(net, 2, 1, 0, 0);
        net.advance(3);
        states(net, 2, 1, 0, 0);
        CHECKS.equal("held", net.linkValue(0, 5), 7);
        net.advance(1);
        states(net, 0, 2, 1, 0);
        ticket(net, 0, 0, 0, 3, 0, 5, 2, 21, 6);
        CHECKS.equal("expired units are available", net.linkValue(0, 5), 4);
        CHECKS.equal("its message does not know", net.requestValue(0, 4), 1);
        net.advance(4);
        states(net, 0, 1, 1, 1);
        ticket(net, 0, 0, 0, 3, 0, 5, 2, 21, 6);
        net.advance(1);
        states(net, 0, 0, 1, 2);
        for (int state : new int[] {4, -1, Integer.MAX_VALUE, Integer.MIN_VALUE}) {
            CHECKS.argument("tickets in state " + state, () -> net.ticketsInState(state));
        }
        PathReservations free = Nets.net("hold 1;expire 100;node a;node b;link a b 9 7 3");
        free.request(0, 1, 3, 8);
        free.setSetting(3, 0);
        free.request(0, 1, 3, 8);
        free.advance(1);
        CHECKS.equal("EXPIRE counts when the ticket expires", free.refunds(), 0);
        free.setSetting(3, 100);
        free.request(0, 1, 3, 8);
        free.advance(1);
        CHECKS.equal("all of it", free.ticketValue(2, 7), 21);
    }

    /** Promise 29. */
    private static void ticketOn() {
        PathReservations net = Nets.net("node a;node b;link a b 99 1 5;link b a 99 1 9");
        for (int i = 0; i < 6; i++) {
            net.request(i % 3 == 2 ? 1 : 0, i % 3 == 2 ? 0 : 1, 1 + i, 100);
        }
        on(net, 0, 0, 1, 3, 4);
        on(net, 1, 2, 5);
        net.advance(7);
        on(net, 0, 0, 1, 3, 4);
        net.cancel(1);
        net.cancel(2);
        on(net, 0, 0, 3, 4);
        on(net, 1, 5);
        net.request(0, 1, 1, 1);
        on(net, 0, 0, 3, 4, 6);
        net.setSetting(0, 1);
        net.request(0, 1, 1, 1);
        on(net, 0, 0, 3, 4, 6, 7);
        net.advance(1);
        on(net, 0, 0, 3, 4, 6);
        net.takeDown(0);
        on(net, 0);
        CHECKS.index("link 2", () -> net.ticketOn(2, 0));
        CHECKS.index("link -1", () -> net.ticketOn(-1, 0));
        CHECKS.index("no links", () -> new PathReservations().ticketOn(0, 0));
    }

    private static void on(PathReservations net, int link, int... tickets) {
        for (int i = 0; i < 8; i++) {
            CHECKS.equal("at " + net.time() + ": on link " + link + " at " + i, net.ticketOn(link, i),
                i < tickets.length ? tickets[i] : -1);
        }
        CHECKS.equal("index -1", net.ticketOn(link, -1), -1);
        CHECKS.equal("the least index", net.ticketOn(link, Integer.MIN_VALUE), -1);
        CHECKS.equal("the greatest index", net.ticketOn(link, Integer.MAX_VALUE), -1);
    }

    /** Promise 31. */
    private static void ticketsOf() {
        PathReservations net = Nets.triangle();
        net.request(Nets.A, Nets.C, 6, 10);
        net.request(Nets.A, Nets.B, 1, 10);
        net.request(Nets.C, Nets.A, 1, 10);
        net.advance(5);
        int[][] due = {{1, 1, 0, 0}, {0, 1, 0, 0}, {0, 0, 0, 0}};
        for (int request = 0; request < due.length; request++) {
            for (int state = 0; state < 4; state++) {
                CHECKS.equal("tickets of " + request + " in state " + state, net.ticketsOf(request, state),
                    due[request][state]);
            }
        }
        net.cancel(0);
        CHECKS.equal("released", net.ticketsOf(0, 3), 2);
        CHECKS.equal("another's", net.ticketsOf(1, 1), 1);
        CHECKS.index("request 3", () -> net.ticketsOf(3, 0));
        CHECKS.index("request -1", () -> net.ticketsOf(-1, 0));
        CHECKS.argument("state 4", () -> net.ticketsOf(0, 4));
        CHECKS.argument("state -1", () -> net.ticketsOf(0, -1));
        CHECKS.index("the request is looked at first", () -> net.ticketsOf(3, 4));
    }

    private static void money(PathReservations net, long revenue, long refunds) {
        CHECKS.equal("revenue at " + net.time(), net.revenue(), revenue);
        CHECKS.equal("refunds at " + net.time(), net.refunds(), refunds);
    }

    /** Promises 32 and 33. */
    private static void money() {
        PathReservations net = Nets.triangle();
        money(net, 0, 0);
        net.request(Nets.A, Nets.C, 6, 10);
        money(net, 12, 0);
        net.request(Nets.B, Nets.C, 3, 10);
        money(net, 15, 0);
        net.advance(3);
        money(net, 3, 12);
        CHECKS.equal("too few units on link 1", net.requestValue(0, 12), 1);
        net.cancel(1);
        money(net, 1, 12 + 3 * 80 / 100);
        Nets.load(net, Nets.TRIANGLE);
        money(net, 0, 0);
    }

    private static void moneyOfGreatNumbers() {
        PathReservations net = Nets.net("hold 30;" + Nets.line(12, "1000 1000 1"));
        for (int i = 0; i < 40; i++) {
            net.request(0, 11, 1000, 1);
            net.advance(24);
        }
        CHECKS.equal("440 tickets", net.ticketCount(), 440);
        money(net, 440000000L, 0);
        CHECKS.equal("a request", net.requestValue(7, 7), 11000000);
    }

    /** Promise 34. */
    private static void nextExpiry() {
        PathReservations net = Nets.net("hold 9;" + Nets.TRIANGLE);
        CHECKS.equal("no ticket", net.nextExpiry(), -1);
        net.request(Nets.A, Nets.C, 1, 10);
        CHECKS.equal("the first ticket", net.nextExpiry(), 9);
        net.setSetting(0, 3);
        net.advance(3);
        CHECKS.equal("the second one expires earlier", net.nextExpiry(), 6);
        net.advance(2);
        CHECKS.equal("it is confirmed now", net.nextExpiry(), 9);
        net.advance(2);
        CHECKS.equal("so is the first one", net.nextExpiry(), -1);
        net.request(Nets.A, Nets.B, 1, 10);
        CHECKS.equal("again", net.nextExpiry(), 10);
        net.cancel(1);
        CHECKS.equal("released", net.nextExpiry(), -1);
    }

    /** Promise 35. */
    private static void nextEvent() {
        PathReservations net = Nets.net("hold 12;" + Nets.TRIANGLE);
        CHECKS.equal("nothing", net.nextEvent(), -1);
        net.request(Nets.C, Nets.A, 6, 10);
        CHECKS.equal("nothing for a request that failed", net.nextEvent(), -1);
        net.request(Nets.A, Nets.C, 6, 10);
        int[] due = {3, 3, 3, 5, 5, 7, 7, 10, 10, 10, 20};
        for (int next : due) {
            CHECKS.equal("next event at " + net.time(), net.nextEvent(), next);
            net.advance(1);
        }
        net.advance(8);
        CHECKS.equal("the end", net.nextEvent(), 20);
        net.advance(1);
        CHECKS.equal("done", net.nextEvent(), -1);
    }

    private static void nextEventOfEachKind() {
        PathReservations net = Nets.net("hold 2;retry 4;" + Nets.TRIANGLE);
        net.request(Nets.A, Nets.C, 1, 10);
        CHECKS.equal("it expires before the message comes", net.nextEvent(), 2);
        net.setSetting(2, 3);
        net.request(Nets.A, Nets.C, 11, 10);
        net.advance(2);
        CHECKS.equal("then the message comes", net.nextEvent(), 3);
        net.cancel(0);
        CHECKS.equal("the next attempt", net.nextEvent(), 4);
        net.cancel(1);
        CHECKS.equal("nothing", net.nextEvent(), -1);
        net.setSetting(0, 500);
        net.request(Nets.A, Nets.B, 1, 10);
        net.request(Nets.B, Nets.C, 1, 3);
        net.advance(5);
        CHECKS.equal("active until 9, the other one is due before", net.nextEvent(), 8);
        net.takeDown(0);
        CHECKS.equal("a waiting one and an active one", net.nextEvent(), 9);
        net.takeDown(1);
        CHECKS.equal("broken: the waiting one alone", net.nextEvent(), 11);
    }

    /** Promise 36. */
    private static void isSafe() {
        PathReservations net = Nets.triangle();
        CHECKS.same("new", new PathReservations().isSafe(), true);
        net.request(Nets.A, Nets.C, 8, 10);
        net.setCapacity(0, 8);
        net.setCapacity(0, 7);
        for (int i = 0; i < 8; i++) {
            CHECKS.same("at " + net.time(), net.isSafe(), true);
            net.request(Nets.A, Nets.C, 1 + i, 3);
            net.advance(3);
        }
    }
}
