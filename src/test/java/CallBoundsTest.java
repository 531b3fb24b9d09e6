import java.lang.reflect.InvocationTargetException;
import java.lang.reflect.Method;
import java.util.ArrayList;
import java.util.HashMap;
import java.util.List;
import java.util.Map;

/**
 * The boundary cases of section 6 and of the parameters of every promise: the least and the greatest
 * value that is taken, the first ones that are refused, which exception is thrown, and that a refused
 * call changes nothing.
 */
public final class CallBoundsTest {
    private static final Checks CHECKS = new Checks("CallBoundsTest");

    /**
     * The methods with their parameters: a number of something (IndexOutOfBoundsException if there is
     * no such one), an index (any number is taken), or a range (IllegalArgumentException outside it).
     */
    private static final String[] METHODS = {
        "nameLetter node index", "linkValue link 0..8", "setting 0..4", "setSetting 0..4 1..9",
        "setCapacity link 0..1000", "takeDown link", "bringUp link", "request node node 1..1000 1..10000",
        "cancel request", "extend request", "advance 1..1000", "requestValue request 0..12",
        "pathLength request", "pathLink request index", "placeOf request", "inState 0..7",
        "requestInState 0..7 index", "ticketValue ticket 0..7", "ticketOn link index",
        "ticketsInState 0..3", "ticketsOf request 0..3", "cheapest node node 0..1000",
        "cheapestLink node node 0..1000 index", "roundTrip node node 0..1000",
        "neededHold node node 0..1000", "widest node node", "greatestFlow node node",
        "smallestCut node node", "disjointPaths node node 0..1000", "reachable node 0..1000",
        "criticalLinks node node 0..1000", "ticksUntilActive request", "ticksForNew node node 1..1000",
        "greatestNew node node", "revenueAfter 0..2000", "availableAfter link 0..2000",
        "ticksUntilAvailable link 0..1000", "stateAfter request 0..2000", "activeWithout link 0..2000",
        "saveSnapshot 0..1", "restoreSnapshot 0..1",
    };
    /** Those that may change something when their arguments are good. */
    private static final List<String> CHANGES = List.of("setSetting", "setCapacity", "takeDown", "bringUp",
        "request", "cancel", "extend", "advance", "saveSnapshot", "restoreSnapshot");
    private static final Map<String, Method> FOUND = new HashMap<>();

    private CallBoundsTest() {
    }

    public static void main(String[] args) {
        for (Method method : PathReservations.class.getMethods()) {
            FOUND.put(method.getName(), method);
        }
        everyParameterIsTold();
        endsAreTaken(new Largest());
        endsAreTaken(new Busy());
        beyondTheEndsIsRefused(new Largest());
        beyondTheEndsIsRefused(new Busy());
        noSuchIndex();
        nothingThere();
        sameNodeTwice();
        severalExceptions(new Largest());
        severalExceptions(new Busy());
        exceptionsBeforeErrorCodes();
        rangesOfValues();
        refusedCallsChangeNothing();
        queriesChangeNothing();
        errorCodesChangeNothing();
        emptiedBuffer();
        statesOfRequests();
        statesOfTickets();
        fullOfRequests();
        CHECKS.end();
    }

    // ---- objects and their parameters

    /** Makes objects that are all alike. */
    private interface Maker {
        PathReservations make();

        int count(String kind);
    }

    /** 12 nodes, 24 links, 40 requests, 500 tickets. */
    private static final class Largest implements Maker {
        public PathReservations make() {
            PathReservations net = Nets.net("tries 9;retry 1;" + Nets.line(11, "9 1 1") + ";node l"
                + ";link k l 0 1 1".repeat(13) + ";link l a 9 1 1");
            for (int i = 0; i < 10; i++) {
                net.request(0, i < 5 ? 11 : 10, 9, 1);
                net.advance(100);
            }
            for (int i = 10; i < 40; i++) {
                net.request(11, 0, 9, 1);
            }
            return net;
        }

        public int count(String kind) {
            return kind.equals("node") ? 12 : kind.equals("link") ? 24 : kind.equals("request") ? 40 : 500;
        }
    }

    /** 3 nodes, 3 links, of which one is down, 6 requests of many states, 6 tickets, one snapshot. */
    private static final class Busy implements Maker {
        public PathReservations make() {
            PathReservations net = Nets.net("hold 11;" + Nets.TRIANGLE);
            net.request(2, 0, 1, 1);
            net.request(1, 2, 1, 1);
            net.cancel(net.request(0, 1, 1, 1));
            net.saveSnapshot(0);
            net.request(0, 1, 1, 40);
            net.advance(6);
            net.takeDown(2);
            net.request(0, 2, 6, 10);
            net.advance(4);
            net.request(0, 2, 3, 9);
            Nets.write(net, "ab");
            return net;
        }

        public int count(String kind) {
            return kind.equals("node") || kind.equals("link") ? 3 : 6;
        }
    }

    private static int least(String kind) {
        return isRange(kind) ? Integer.parseInt(kind.substring(0, kind.indexOf('.'))) : 0;
    }

    private static int greatest(String kind, Maker maker) {
        return isRange(kind) ? Integer.parseInt(kind.substring(kind.lastIndexOf('.') + 1)) : maker.count(kind) - 1;
    }

    private static boolean isRange(String kind) {
        return kind.contains("..");
    }

    /** Arguments that are all good; two nodes are different and neither the first nor the last one. */
    private static Object[] good(String[] parts, Maker maker) {
        Object[] args = new Object[parts.length - 1];
        for (int i = 0; i < args.length; i++) {
            String kind = parts[i + 1];
            int inside = maker.count("node") > 3 ? 5 + i : 1 - i;
            int third = isRange(kind) ? Math.min(least(kind) + 2, greatest(kind, maker)) : 1;
            args[i] = kind.equals("node") ? inside : kind.equals("index") ? 0 : third;
        }
        return args;
    }

    /** The answer, or the name of the exception. */
    private static String call(PathReservations net, String name, Object[] args) {
        try {
            return FOUND.get(name).invoke(net, args).toString();
        } catch (InvocationTargetException e) {
            return e.getCause().getClass().getSimpleName();
        } catch (IllegalAccessException e) {
            throw new IllegalStateException(e);
        }
    }

    private static String told(String name, Object[] args) {
        return name + java.util.Arrays.toString(args);
    }

    private static String refusal(String kind) {
        return isRange(kind) ? "IllegalArgumentException" : "IndexOutOfBoundsException";
    }

    private static int[] refused(String kind, Maker maker) {
        return new int[] {least(kind) - 1, greatest(kind, maker) + 1, Integer.MIN_VALUE, Integer.MAX_VALUE};
    }

    // ---- the ends of every range

    private static void everyParameterIsTold() {
        int parameters = 0;
        for (String text : METHODS) {
            String[] parts = text.split(" ");
            CHECKS.equal("parameters of " + parts[0], FOUND.get(parts[0]).getParameterCount(), parts.length - 1);
            parameters += parts.length - 1;
        }
        int all = 0;
        for (Method method : FOUND.values()) {
            boolean own = method.getDeclaringClass() == PathReservations.class && !method.getName().equals("append");
            all += own ? method.getParameterCount() : 0;
        }
        CHECKS.equal("all parameters but that of append", parameters, all);
    }

    private static void endsAreTaken(Maker maker) {
        for (String text : METHODS) {
            String[] parts = text.split(" ");
            for (int i = 1; i < parts.length; i++) {
                boolean any = parts[i].equals("index");
                int[] ends = any ? new int[] {0} : new int[] {least(parts[i]), greatest(parts[i], maker)};
                for (int end : ends) {
                    Object[] args = good(parts, maker);
                    args[i - 1] = end;
                    if (!text.contains("node node") || !args[0].equals(args[1])) {
                        String answer = call(maker.make(), parts[0], args);
                        CHECKS.same(told(parts[0], args) + " does not throw", answer.endsWith("Exception"), false);
                    }
                }
            }
        }
    }

    private static void beyondTheEndsIsRefused(Maker maker) {
        for (String text : METHODS) {
            String[] parts = text.split(" ");
            for (int i = 1; i < parts.length; i++) {
                if (!parts[i].equals("index")) {
                    for (int value : refused(parts[i], maker)) {
                        Object[] args = good(parts, maker);
                        args[i - 1] = value;
                        CHECKS.same(told(parts[0], args), call(maker.make(), parts[0], args), refusal(parts[i]));
                    }
                }
            }
        }
    }

    /** NONE for an index, whatever it is. */
    private static void noSuchIndex() {
        for (Maker maker : new Maker[] {new Largest(), new Busy()}) {
            for (String text : METHODS) {
                String[] parts = text.split(" ");
                if (parts[parts.length - 1].equals("index")) {
                    for (int index : new int[] {-1, -2, Integer.MIN_VALUE, 500, Integer.MAX_VALUE}) {
                        Object[] args = good(parts, maker);
                        args[args.length - 1] = index;
                        CHECKS.same(told(parts[0], args), call(maker.make(), parts[0], args), "-1");
                    }
                }
            }
        }
        PathReservations net = new Largest().make();
        CHECKS.equal("the last letter", net.nameLetter(11, 0), 'l');
        CHECKS.equal("no letter behind it", net.nameLetter(11, 1), -1);
        CHECKS.equal("the last link of a path", net.pathLink(9, 9), 9);
        CHECKS.equal("no link behind it", net.pathLink(9, 10), -1);
        CHECKS.equal("the last request in a state", net.requestInState(7, 29), 39);
        CHECKS.equal("no request behind it", net.requestInState(7, 30), -1);
        CHECKS.equal("the last link of the cheapest path", net.cheapestLink(0, 10, 0, 9), 9);
        CHECKS.equal("no link behind it", net.cheapestLink(0, 10, 0, 10), -1);
        CHECKS.equal("the cheapest path over all nodes", net.cheapestLink(0, 11, 0, 10), 10);
        CHECKS.equal("no link behind it", net.cheapestLink(0, 11, 0, 11), -1);
        PathReservations busy = new Busy().make();
        CHECKS.equal("the only ticket of a link", busy.ticketOn(1, 0), 4);
        CHECKS.equal("no ticket behind it", busy.ticketOn(1, 1), -1);
    }

    /** An object without nodes, links, requests and tickets has no number at all. */
    private static void nothingThere() {
        for (String text : METHODS) {
            String[] parts = text.split(" ");
            if (!isRange(parts[1])) {
                for (int value : new int[] {-1, 0, 1, 11, 23}) {
                    Object[] args = good(parts, new Largest());
                    args[0] = value;
                    CHECKS.same("new: " + told(parts[0], args), call(new PathReservations(), parts[0], args),
                        "IndexOutOfBoundsException");
                }
            }
        }
        PathReservations net = Nets.net("hold 5");
        CHECKS.index("no node", () -> net.reachable(0, 0));
        CHECKS.index("no pair of nodes", () -> net.widest(0, 0));
        Nets.load(net, "node a");
        CHECKS.equal("one node", net.reachable(0, 0), 1);
        CHECKS.argument("twice the only one", () -> net.widest(0, 0));
        CHECKS.index("no second one", () -> net.widest(0, 1));
    }

    private static void sameNodeTwice() {
        for (String text : METHODS) {
            if (text.contains("node node")) {
                String[] parts = text.split(" ");
                for (int node = 0; node < 13; node++) {
                    Object[] args = good(parts, new Largest());
                    args[0] = node;
                    args[1] = node;
                    CHECKS.same(told(parts[0], args), call(new Largest().make(), parts[0], args),
                        node < 12 ? "IllegalArgumentException" : "IndexOutOfBoundsException");
                }
            }
        }
    }

    /** Of several exceptions, IndexOutOfBoundsException is listed first everywhere. */
    private static void severalExceptions(Maker maker) {
        for (String text : METHODS) {
            String[] parts = text.split(" ");
            for (int set = 0; set < 1 << parts.length - 1; set++) {
                Object[] args = good(parts, maker);
                String due = "";
                for (int i = 0; i < args.length; i++) {
                    String kind = parts[i + 1];
                    if ((set >> i & 1) != 0) {
                        args[i] = kind.equals("index") ? -1 : greatest(kind, maker) + 1;
                        boolean first = due.isEmpty() || !isRange(kind);
                        due = !kind.equals("index") && first ? refusal(kind) : due;
                    }
                }
                if (!due.isEmpty()) {
                    CHECKS.same(told(parts[0], args), call(maker.make(), parts[0], args), due);
                }
            }
        }
        PathReservations net = maker.make();
        CHECKS.index("no such nodes, though they are the same", () -> net.request(12, 12, 0, 0));
        CHECKS.index("no such target", () -> net.request(0, 12, 0, 0));
        CHECKS.argument("the same nodes and no units", () -> net.request(0, 0, 0, 0));
    }

    private static void exceptionsBeforeErrorCodes() {
        PathReservations net = new Busy().make();
        CHECKS.equal("more units are promised", net.setCapacity(1, 0), -3);
        CHECKS.argument("but -1 is no capacity", () -> net.setCapacity(1, -1));
        PathReservations full = new Largest().make();
        CHECKS.equal("40 requests", full.request(0, 1, 1, 1), -2);
        CHECKS.argument("but 0 is no duration", () -> full.request(0, 1, 1, 0));
        CHECKS.argument("nor 0 a number of units", () -> full.request(0, 1, 0, 1));
        CHECKS.argument("nor is a node another one than itself", () -> full.request(1, 1, 1, 1));
        CHECKS.index("nor 12 a node", () -> full.request(12, 1, 1, 1));
        CHECKS.equal("40 requests, no new one", full.ticksForNew(0, 1, 1), -2);
        CHECKS.argument("but 0 is no number of units", () -> full.ticksForNew(0, 1, 0));
        CHECKS.argument("nor are there 1001", () -> full.ticksForNew(0, 1, 1001));
        CHECKS.index("nor 12 a node", () -> full.ticksForNew(0, 12, 1));
        CHECKS.equal("40 requests, no greatest new one", full.greatestNew(0, 1), -2);
        CHECKS.argument("but node 1 is no other one", () -> full.greatestNew(1, 1));
        CHECKS.index("and 12 is none", () -> full.greatestNew(12, 1));
        full.takeDown(23);
        CHECKS.equal("40 requests, and no way", full.ticksForNew(11, 0, 1), -2);
        CHECKS.equal("40 requests, and no way for any units", full.greatestNew(11, 0), -2);
    }

    /** Promises 10 and 11: each number of the configuration has a range of its own. */
    private static void rangesOfValues() {
        int[] least = {1, 1, 1, 0, 0};
        int[] greatest = {500, 100, 9, 100, 100};
        int[] usual = {20, 5, 3, 50, 80};
        for (int what = 0; what < 5; what++) {
            int w = what;
            PathReservations net = Nets.triangle();
            CHECKS.equal("the greatest " + what, net.setSetting(what, greatest[what]), usual[what]);
            CHECKS.equal("is kept", net.setting(what), greatest[what]);
            CHECKS.equal("the least " + what, net.setSetting(what, least[what]), greatest[what]);
            CHECKS.equal("is kept", net.setting(what), least[what]);
            for (int value : new int[] {least[w] - 1, greatest[w] + 1, Integer.MIN_VALUE, Integer.MAX_VALUE}) {
                CHECKS.argument("value " + value + " of " + what, () -> net.setSetting(w, value));
                CHECKS.equal("changes nothing", net.setting(what), least[what]);
            }
            for (int other = 0; other < 5; other++) {
                CHECKS.equal("the others stay", net.setting(other), other == what ? least[what] : usual[other]);
            }
        }
    }

    // ---- section 6: what changes nothing

    private static void unchanged(String what, PathReservations net, int buffer) {
        PathReservations other = new Busy().make();
        CHECKS.same(what + ": unchanged", Nets.everything(net), Nets.everything(other));
        CHECKS.equal(what + ": the buffer", net.append(0), buffer);
        net.advance(60);
        other.advance(60);
        CHECKS.same(what + ": 60 ticks later", Nets.state(net), Nets.state(other));
        CHECKS.equal(what + ": slot 1", net.restoreSnapshot(1), -1);
        CHECKS.equal(what + ": slot 0", net.restoreSnapshot(0), 0);
    }

    private static void refusedCallsChangeNothing() {
        Maker maker = new Busy();
        for (String text : METHODS) {
            String[] parts = text.split(" ");
            for (int i = 1; i < parts.length; i++) {
                int[] values = parts[i].equals("index") ? new int[] {-1} : refused(parts[i], maker);
                for (int value : values) {
                    PathReservations net = maker.make();
                    Object[] args = good(parts, maker);
                    args[i - 1] = value;
                    call(net, parts[0], args);
                    unchanged(told(parts[0], args), net, 2);
                }
            }
        }
    }

    private static void queriesChangeNothing() {
        Maker maker = new Busy();
        for (String text : METHODS) {
            String[] parts = text.split(" ");
            if (!CHANGES.contains(parts[0])) {
                List<Object[]> all = new ArrayList<>();
                all.add(good(parts, maker));
                for (int i = 1; i < parts.length; i++) {
                    Object[] args = good(parts, maker);
                    args[i - 1] = parts[i].equals("index") || parts[i].equals("node") ? args[i - 1]
                        : greatest(parts[i], maker);
                    all.add(args);
                }
                for (Object[] args : all) {
                    PathReservations net = maker.make();
                    call(net, parts[0], args);
                    unchanged(told(parts[0], args), net, 2);
                }
            }
        }
        for (String name : new String[] {"loadError", "nodeCount", "linkCount", "time", "requestCount", "ticketCount",
            "revenue", "refunds", "nextExpiry", "nextEvent", "isSafe", "ticksUntilQuiet"}) {
            PathReservations net = maker.make();
            call(net, name, new Object[0]);
            unchanged(name, net, 2);
        }
    }

    private static void errorCode(String what, int code, int buffer, PathReservations net, int answer) {
        CHECKS.equal(what, answer, code);
        unchanged(what, net, buffer);
    }

    private static void errorCodesChangeNothing() {
        PathReservations net = new Busy().make();
        errorCode("too small a capacity", -3, 2, net, net.setCapacity(0, 9));
        net = new Busy().make();
        errorCode("down already", -3, 2, net, net.takeDown(2));
        net = new Busy().make();
        errorCode("up already", -3, 2, net, net.bringUp(0));
        int[] over = {0, 1, 2};
        for (int request : over) {
            net = new Busy().make();
            CHECKS.same("no state for a cancellation", net.requestValue(request, 4) >= 3, true);
            errorCode("cancel " + request, -3, 2, net, net.cancel(request));
        }
        net = new Busy().make();
        errorCode("an empty slot", -1, 2, net, net.restoreSnapshot(1));
        net = new Busy().make();
        errorCode("no such name", -1, 0, net, net.nodeNamed());
        net = new Busy().make();
        errorCode("no text", -100, 0, net, net.load());
        net = new Busy().make();
        Nets.write(net, "x".repeat(691));
        errorCode("too many bytes", -2, 693, net, net.append(-1));
    }

    /** Section 6: load() and nodeNamed() empty the buffer, also with an error; nothing else does. */
    private static void emptiedBuffer() {
        PathReservations net = Nets.triangle();
        CHECKS.equal("after a load", net.append(0), 0);
        CHECKS.equal("a byte", net.append('b'), 1);
        CHECKS.equal("a node", net.nodeNamed(), 1);
        CHECKS.equal("empty", net.append(0), 0);
        CHECKS.equal("another byte", net.append('x'), 1);
        CHECKS.equal("no node", net.nodeNamed(), -1);
        CHECKS.equal("empty, too", net.append(0), 0);
        Nets.load(net, "hold 0");
        CHECKS.equal("after an error", net.append(0), 0);
        net.append('b');
        net.request(0, 2, 1, 1);
        net.saveSnapshot(0);
        net.advance(3);
        net.restoreSnapshot(0);
        net.ticksForNew(0, 2, 1);
        CHECKS.index("an exception", () -> net.request(0, 7, 1, 1));
        CHECKS.equal("it is kept", net.append(0), 1);
        CHECKS.equal("and is a name still", net.nodeNamed(), 1);
    }

    /** What holds in some states and not in others, asked in each of them. */
    private static void statesOfRequests() {
        int[] requests = {7, 6, 3, 1, 0, 2, 4, 8};
        boolean[] due = {true, true, false, false, false, false, false, true};
        boolean[] begun = {false, false, true, true, false, false, true, false};
        boolean[] ended = {false, false, true, true, false, true, true, false};
        boolean[] open = {true, true, true, false, false, false, false, true};
        int[] held = {1, 1, 0, 0, 0, 0, 0, 0};
        for (int state = 0; state < requests.length; state++) {
            int request = requests[state];
            PathReservations net = Nets.rich();
            CHECKS.equal("state of " + request, net.requestValue(request, 4), state);
            CHECKS.same("due in " + state, net.requestValue(request, 6) > 11, due[state]);
            CHECKS.same("NONE is due in " + state, net.requestValue(request, 6) == -1, !due[state]);
            CHECKS.same("begun in " + state, net.requestValue(request, 10) >= 0, begun[state]);
            CHECKS.same("NONE begun in " + state, net.requestValue(request, 10) == -1, !begun[state]);
            CHECKS.same("end in " + state, net.requestValue(request, 11) >= 0, ended[state]);
            CHECKS.same("NONE ends in " + state, net.requestValue(request, 11) == -1, !ended[state]);
            CHECKS.equal("place in " + state, net.placeOf(request), state < 2 ? 1 : -1);
            CHECKS.equal("held in " + state, net.extend(request), held[state]);
            CHECKS.same("cancel in " + state, net.cancel(request) >= 0, open[state]);
            CHECKS.equal("cancel again in " + state, net.cancel(request), -3);
            CHECKS.equal("then", net.requestValue(request, 4), open[state] ? 5 : state);
            CHECKS.equal("nothing is due", net.requestValue(request, 6), -1);
            CHECKS.equal("no place", net.placeOf(request), -1);
            CHECKS.equal("nothing is held", net.extend(request), 0);
            CHECKS.equal("it never becomes active", net.ticksUntilActive(request), -1);
        }
    }

    /** Held and confirmed tickets are promised, the others are not; a held one alone can expire. */
    private static void statesOfTickets() {
        PathReservations net = Nets.rich();
        int[][] promised = {{2, 5, 7}, {6}, {}, {}};
        int[] units = {10, 6, 0, 0};
        for (int link = 0; link < promised.length; link++) {
            CHECKS.equal("promised units of " + link, net.linkValue(link, 5), units[link]);
            for (int i = 0; i < promised[link].length; i++) {
                CHECKS.equal("ticket " + i + " of " + link, net.ticketOn(link, i), promised[link][i]);
            }
            CHECKS.equal("no more on " + link, net.ticketOn(link, promised[link].length), -1);
        }
        int[] states = {3, 3, 1, 3, 2, 0, 1, 0};
        for (int ticket = 0; ticket < states.length; ticket++) {
            CHECKS.equal("state of ticket " + ticket, net.ticketValue(ticket, 5), states[ticket]);
        }
        for (int state = 0; state < 4; state++) {
            CHECKS.equal("tickets in state " + state, net.ticketsInState(state), new int[] {2, 2, 1, 3}[state]);
        }
        CHECKS.equal("the next expiry is that of a held one", net.nextExpiry(), 15);
    }

    private static void fullOfRequests() {
        PathReservations net = new Largest().make();
        CHECKS.equal("nodes", net.nodeCount(), 12);
        CHECKS.equal("links", net.linkCount(), 24);
        CHECKS.equal("requests", net.requestCount(), 40);
        CHECKS.equal("tickets", net.ticketCount(), 500);
        String before = summary(net);
        CHECKS.equal("a 41st request", net.request(0, 1, 1, 1), -2);
        CHECKS.same("changes nothing", summary(net), before);
        CHECKS.equal("nor does its prediction", net.ticksForNew(0, 1, 1), -2);
        CHECKS.equal("nor does this one", net.greatestNew(0, 1), -2);
        CHECKS.same("nothing at all", summary(net), before);
        CHECKS.equal("the last ticket", net.ticketValue(499, 0), 9);
        CHECKS.equal("the last request", net.requestValue(39, 0), 11);
        CHECKS.equal("the last link", net.linkValue(23, 0), 11);
    }

    private static String summary(PathReservations net) {
        StringBuilder text = new StringBuilder();
        for (int state = 0; state < 8; state++) {
            text.append(net.inState(state)).append(' ');
        }
        for (int state = 0; state < 4; state++) {
            text.append(net.ticketsInState(state)).append(' ');
        }
        for (int link = 0; link < net.linkCount(); link++) {
            text.append(net.linkValue(link, 6)).append(' ').append(net.linkValue(link, 7)).append(' ');
        }
        text.append(net.revenue()).append(' ').append(net.refunds()).append(' ').append(net.nextEvent());
        return text.append(' ').append(net.requestCount()).append(' ').append(net.ticketCount()).toString();
    }
}
