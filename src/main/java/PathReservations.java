import java.util.Arrays;

/** A simulator of path reservations in a network, as the document's promises 1 to 57 describe it. */
public final class PathReservations {
    public static final int NONE = -1;
    public static final int FULL = -2;
    public static final int WRONG_STATE = -3;

    private static final int MOST_NODES = 12;
    private static final int MOST_LINKS = 24;
    private static final int LONGEST_PATH = 11;
    private static final int MOST_REQUESTS = 40;
    private static final int MOST_TICKETS = 500;
    private static final int MOST_BYTES = 700;
    private static final int LONGEST_NAME = 6;
    private static final int SLOTS = 2;

    private static final int MOST_UNITS = 1000;
    private static final int LONGEST_DURATION = 10000;
    private static final int LONGEST_ADVANCE = 1000;
    private static final int LATEST_TIME = 1000000;
    private static final int FORESIGHT = 2000;
    private static final int QUIET_FORESIGHT = 20000;
    private static final int GREATEST_TRIED = 512;
    private static final int ERROR_BASE = -100;

    private static final int HOLD = 0;
    private static final int RETRY = 1;
    private static final int TRIES = 2;
    private static final int EXPIRE = 3;
    private static final int CANCEL = 4;
    private static final int SETTINGS = 5;
    private static final int[] USUAL_SETTING = {20, 5, 3, 50, 80};
    private static final int[] LEAST_SETTING = {1, 1, 1, 0, 0};
    private static final int[] GREATEST_SETTING = {500, 100, 9, 100, 100};

    private static final int FORWARD = 0;
    private static final int BACK = 1;
    private static final int ACTIVE = 2;
    private static final int DONE = 3;
    private static final int FAILED = 4;
    private static final int CANCELLED = 5;
    private static final int BROKEN = 6;
    private static final int WAITING = 7;

    private static final int HELD = 0;
    private static final int CONFIRMED = 1;
    private static final int EXPIRED = 2;
    private static final int RELEASED = 3;

    /** Far above what any loop without a bound in the document needs. */
    private static final int LOOP_END = 1000000;

    private final World world = new World();
    /** Where predictions run and configurations are read, so that the world itself stays as it is. */
    private final World spare = new World();
    /** Made when a slot is first used; null means that nothing was saved there. */
    private final World[] snapshots = new World[SLOTS];
    private final Flow flow = new Flow();
    private final Input input = new Input();

    public PathReservations() {
    }

    // ---- the network

    public int append(long bytes) {
        return input.add(bytes);
    }

    public int load() {
        input.readInto(spare);
        if (input.error != 0) {
            return ERROR_BASE - input.errorAt;
        }
        world.copyFrom(spare);
        return world.links.count;
    }

    public int loadError() {
        return input.error;
    }

    public int nodeNamed() {
        return world.nodeWithName(input.takeName());
    }

    public int nodeCount() {
        return world.nodes;
    }

    public int linkCount() {
        return world.links.count;
    }

    public int nameLetter(int node, int index) throws IndexOutOfBoundsException {
        requireIndex(node, world.nodes);
        return letterOf(world.names[node], index);
    }

    public int linkValue(int link, int what) throws IndexOutOfBoundsException, IllegalArgumentException {
        requireIndex(link, world.links.count);
        requireRange(what, 0, 8);
        return world.links.value(link, what);
    }

    public int setting(int what) throws IllegalArgumentException {
        requireRange(what, 0, SETTINGS - 1);
        return world.settings[what];
    }

    public int setSetting(int what, int value) throws IllegalArgumentException {
        requireRange(what, 0, SETTINGS - 1);
        requireRange(value, LEAST_SETTING[what], GREATEST_SETTING[what]);
        int previous = world.settings[what];
        world.settings[what] = value;
        return previous;
    }

    public int setCapacity(int link, int capacity) throws IndexOutOfBoundsException, IllegalArgumentException {
        requireIndex(link, world.links.count);
        requireRange(capacity, 0, MOST_UNITS);
        if (world.links.promised[link] > capacity) {
            return WRONG_STATE;
        }
        int previous = world.links.capacity[link];
        world.links.capacity[link] = capacity;
        return previous;
    }

    public int takeDown(int link) throws IndexOutOfBoundsException {
        requireIndex(link, world.links.count);
        return world.links.isUp(link) ? world.closeLink(link) : WRONG_STATE;
    }

    public int bringUp(int link) throws IndexOutOfBoundsException {
        requireIndex(link, world.links.count);
        if (world.links.isUp(link)) {
            return WRONG_STATE;
        }
        world.links.up |= 1 << link;
        return world.time;
    }

    // ---- requests and time

    public int request(int source, int target, int units, int duration)
            throws IndexOutOfBoundsException, IllegalArgumentException {
        requirePair(source, target);
        requireRange(units, 1, MOST_UNITS);
        requireRange(duration, 1, LONGEST_DURATION);
        return world.makeRequest(source, target, units, duration);
    }

    public int cancel(int request) throws IndexOutOfBoundsException {
        requireIndex(request, world.requests.count);
        boolean open = world.requests.isOnItsWay(request) || world.requests.state[request] == ACTIVE;
        return open ? world.cancelRequest(request) : WRONG_STATE;
    }

    public int extend(int request) throws IndexOutOfBoundsException {
        requireIndex(request, world.requests.count);
        return world.tickets.postpone(request, world.time + world.settings[HOLD]);
    }

    public int advance(int ticks) throws IllegalArgumentException {
        requireRange(ticks, 1, LONGEST_ADVANCE);
        if (world.time + ticks > LATEST_TIME) {
            return FULL;
        }
        world.passTo(world.time + ticks);
        return world.time;
    }

    public int time() {
        return world.time;
    }

    public int requestCount() {
        return world.requests.count;
    }

    public int requestValue(int request, int what) throws IndexOutOfBoundsException, IllegalArgumentException {
        requireIndex(request, world.requests.count);
        requireRange(what, 0, 12);
        return world.requests.value(request, what);
    }

    public int pathLength(int request) throws IndexOutOfBoundsException {
        requireIndex(request, world.requests.count);
        return world.requests.length[request];
    }

    public int pathLink(int request, int index) throws IndexOutOfBoundsException {
        requireIndex(request, world.requests.count);
        boolean exists = index >= 0 && index < world.requests.length[request];
        return exists ? world.requests.path[request][index] : NONE;
    }

    public int placeOf(int request) throws IndexOutOfBoundsException {
        requireIndex(request, world.requests.count);
        int state = world.requests.state[request];
        return state == FORWARD || state == BACK ? world.requests.place[request] : NONE;
    }

    public int inState(int state) throws IllegalArgumentException {
        requireRange(state, FORWARD, WAITING);
        return world.requests.countWith(state);
    }

    public int requestInState(int state, int index) throws IllegalArgumentException {
        requireRange(state, FORWARD, WAITING);
        return world.requests.numberWith(state, index);
    }

    // ---- tickets and money

    public int ticketCount() {
        return world.tickets.count;
    }

    public int ticketValue(int ticket, int what) throws IndexOutOfBoundsException, IllegalArgumentException {
        requireIndex(ticket, world.tickets.count);
        requireRange(what, 0, 7);
        return world.tickets.value(ticket, what);
    }

    public int ticketOn(int link, int index) throws IndexOutOfBoundsException {
        requireIndex(link, world.links.count);
        return world.tickets.promisedOn(link, index);
    }

    public int ticketsInState(int state) throws IllegalArgumentException {
        requireRange(state, HELD, RELEASED);
        int found = 0;
        for (int request = 0; request < world.requests.count; request++) {
            found += world.tickets.countWith(request, state);
        }
        return found;
    }

    public int ticketsOf(int request, int state) throws IndexOutOfBoundsException, IllegalArgumentException {
        requireIndex(request, world.requests.count);
        requireRange(state, HELD, RELEASED);
        return world.tickets.countWith(request, state);
    }

    public long revenue() {
        return world.revenueNow();
    }

    public long refunds() {
        return world.requests.total(world.requests.refunded);
    }

    public int nextExpiry() {
        return world.tickets.firstExpiry();
    }

    public int nextEvent() {
        return world.nextHappening();
    }

    public boolean isSafe() {
        for (int link = 0; link < world.links.count; link++) {
            if (world.links.promised[link] > world.links.capacity[link]) {
                return false;
            }
        }
        return true;
    }

    // ---- paths and flows

    public int cheapest(int source, int target, int units)
            throws IndexOutOfBoundsException, IllegalArgumentException {
        int length = findPath(source, target, units);
        return length == 0 ? NONE : world.paths.sumAlong(world.links.price, 0);
    }

    public int cheapestLink(int source, int target, int units, int index)
            throws IndexOutOfBoundsException, IllegalArgumentException {
        int length = findPath(source, target, units);
        return index >= 0 && index < length ? world.paths.link[index] : NONE;
    }

    public int roundTrip(int source, int target, int units)
            throws IndexOutOfBoundsException, IllegalArgumentException {
        int length = findPath(source, target, units);
        return length == 0 ? NONE : 2 * world.paths.sumAlong(world.links.delay, 0);
    }

    public int neededHold(int source, int target, int units)
            throws IndexOutOfBoundsException, IllegalArgumentException {
        int length = findPath(source, target, units);
        int longest = 0;
        for (int i = 0; i < length; i++) {
            int own = world.links.delay[world.paths.link[i]];
            longest = Math.max(longest, 2 * world.paths.sumAlong(world.links.delay, i + 1) + own);
        }
        return length == 0 ? NONE : longest + 1;
    }

    public int widest(int source, int target) throws IndexOutOfBoundsException, IllegalArgumentException {
        requirePair(source, target);
        return world.paths.width(world.links, source, target);
    }

    public int greatestFlow(int source, int target) throws IndexOutOfBoundsException, IllegalArgumentException {
        requirePair(source, target);
        flow.allowAvailable(world.links);
        return flow.fill(world.links, source, target);
    }

    public int smallestCut(int source, int target) throws IndexOutOfBoundsException, IllegalArgumentException {
        requirePair(source, target);
        flow.allowAvailable(world.links);
        flow.fill(world.links, source, target);
        int cut = 0;
        for (int link = 0; link < world.links.count; link++) {
            boolean leaves = flow.isReached(world.links.from[link]) && !flow.isReached(world.links.to[link]);
            cut |= leaves ? 1 << link : 0;
        }
        return cut & world.links.up;
    }

    public int disjointPaths(int source, int target, int units)
            throws IndexOutOfBoundsException, IllegalArgumentException {
        requirePair(source, target);
        requireRange(units, 0, MOST_UNITS);
        flow.allowOne(world.links.withUnits(units));
        return flow.fill(world.links, source, target);
    }

    public int reachable(int node, int units) throws IndexOutOfBoundsException, IllegalArgumentException {
        requireIndex(node, world.nodes);
        requireRange(units, 0, MOST_UNITS);
        return world.paths.reachedFrom(world.links, node, world.links.withUnits(units));
    }

    public int criticalLinks(int source, int target, int units)
            throws IndexOutOfBoundsException, IllegalArgumentException {
        requirePair(source, target);
        requireRange(units, 0, MOST_UNITS);
        int usable = world.links.withUnits(units);
        if ((world.paths.reachedFrom(world.links, source, usable) >> target & 1) == 0) {
            return 0;
        }
        int critical = 0;
        for (int link = 0; link < world.links.count; link++) {
            int others = usable & ~(1 << link);
            boolean there = (world.paths.reachedFrom(world.links, source, others) >> target & 1) != 0;
            critical |= there ? 0 : 1 << link;
        }
        return critical;
    }

    // ---- predictions

    public int ticksUntilActive(int request) throws IndexOutOfBoundsException {
        requireIndex(request, world.requests.count);
        spare.copyFrom(world);
        return spare.passUntilActive(request);
    }

    public int ticksForNew(int source, int target, int units)
            throws IndexOutOfBoundsException, IllegalArgumentException {
        requirePair(source, target);
        requireRange(units, 1, MOST_UNITS);
        spare.copyFrom(world);
        int request = spare.makeRequest(source, target, units, 1);
        return request == FULL ? FULL : spare.passUntilActive(request);
    }

    public int greatestNew(int source, int target) throws IndexOutOfBoundsException, IllegalArgumentException {
        requirePair(source, target);
        for (int units = GREATEST_TRIED; units >= 1; units /= 2) {
            spare.copyFrom(world);
            int request = spare.makeRequest(source, target, units, 1);
            if (request == FULL) {
                return FULL;
            }
            if (spare.passUntilActive(request) != NONE) {
                return units;
            }
        }
        return NONE;
    }

    public long revenueAfter(int ticks) throws IllegalArgumentException {
        requireRange(ticks, 0, FORESIGHT);
        spare.copyFrom(world);
        spare.passTo(spare.time + ticks);
        return spare.revenueNow();
    }

    public int availableAfter(int link, int ticks) throws IndexOutOfBoundsException, IllegalArgumentException {
        requireIndex(link, world.links.count);
        requireRange(ticks, 0, FORESIGHT);
        spare.copyFrom(world);
        spare.passTo(spare.time + ticks);
        return spare.links.available(link);
    }

    public int ticksUntilAvailable(int link, int units)
            throws IndexOutOfBoundsException, IllegalArgumentException {
        requireIndex(link, world.links.count);
        requireRange(units, 0, MOST_UNITS);
        spare.copyFrom(world);
        return spare.passUntilAvailable(link, units);
    }

    public int stateAfter(int request, int ticks) throws IndexOutOfBoundsException, IllegalArgumentException {
        requireIndex(request, world.requests.count);
        requireRange(ticks, 0, FORESIGHT);
        spare.copyFrom(world);
        spare.passTo(spare.time + ticks);
        return spare.requests.state[request];
    }

    public int activeWithout(int link, int ticks) throws IndexOutOfBoundsException, IllegalArgumentException {
        requireIndex(link, world.links.count);
        requireRange(ticks, 0, FORESIGHT);
        spare.copyFrom(world);
        if (spare.links.isUp(link)) {
            spare.closeLink(link);
        }
        spare.passTo(spare.time + ticks);
        return spare.requests.countWith(ACTIVE);
    }

    public int ticksUntilQuiet() {
        spare.copyFrom(world);
        return spare.passUntilQuiet();
    }

    public int saveSnapshot(int slot) throws IllegalArgumentException {
        requireRange(slot, 0, SLOTS - 1);
        if (snapshots[slot] == null) {
            snapshots[slot] = new World();
        }
        snapshots[slot].copyFrom(world);
        return world.time;
    }

    public int restoreSnapshot(int slot) throws IllegalArgumentException {
        requireRange(slot, 0, SLOTS - 1);
        if (snapshots[slot] == null) {
            return NONE;
        }
        world.copyFrom(snapshots[slot]);
        return world.time;
    }

    // ---- what the methods of the face share

    private static void requireIndex(int index, int count) {
        if (index < 0 || index >= count) {
            throw new IndexOutOfBoundsException("there is no such number");
        }
    }

    private static void requireRange(int value, int least, int greatest) {
        if (value < least || value > greatest) {
            throw new IllegalArgumentException("the value is out of range");
        }
    }

    private void requirePair(int source, int target) {
        requireIndex(source, world.nodes);
        requireIndex(target, world.nodes);
        if (source == target) {
            throw new IllegalArgumentException("both nodes are the same");
        }
    }

    private int findPath(int source, int target, int units) {
        requirePair(source, target);
        requireRange(units, 0, MOST_UNITS);
        return world.paths.find(world.links, source, target, world.links.withUnits(units));
    }

    /** Undoes what Input.packed() does. */
    private static int letterOf(long name, int index) {
        int letters = 0;
        for (long rest = name; rest != 0 && letters < LONGEST_NAME; rest >>>= 8) {
            letters++;
        }
        boolean exists = index >= 0 && index < letters;
        return exists ? (int) (name >>> 8 * (letters - 1 - index) & 255) : NONE;
    }

    /** The links of a network, each property in a row of its own, by the number of the link. */
    private static final class Links {
        final int[] from = new int[MOST_LINKS];
        final int[] to = new int[MOST_LINKS];
        final int[] capacity = new int[MOST_LINKS];
        final int[] price = new int[MOST_LINKS];
        final int[] delay = new int[MOST_LINKS];
        final int[] promised = new int[MOST_LINKS];
        final int[] failures = new int[MOST_LINKS];
        /** Bit k tells whether link k is up. */
        int up = 0;
        int count = 0;

        void add(int begin, int end, int units, int unitPrice, int ticks) {
            if (count >= MOST_LINKS) {
                return;
            }
            from[count] = begin;
            to[count] = end;
            capacity[count] = units;
            price[count] = unitPrice;
            delay[count] = ticks;
            promised[count] = 0;
            failures[count] = 0;
            up |= 1 << count;
            count++;
        }

        boolean isUp(int link) {
            return (up >> link & 1) != 0;
        }

        int available(int link) {
            return capacity[link] - promised[link];
        }

        /** The links that are up and have these units available, bit k for link k. */
        int withUnits(int units) {
            int found = 0;
            for (int link = 0; link < count; link++) {
                found |= available(link) >= units ? 1 << link : 0;
            }
            return found & up;
        }

        int value(int link, int what) {
            switch (what) {
                case 0: return from[link];
                case 1: return to[link];
                case 2: return capacity[link];
                case 3: return price[link];
                case 4: return delay[link];
                case 5: return promised[link];
                case 6: return available(link);
                case 7: return failures[link];
                default: return isUp(link) ? 1 : 0;
            }
        }

        void copyFrom(Links other) {
            count = other.count;
            up = other.up;
            System.arraycopy(other.from, 0, from, 0, count);
            System.arraycopy(other.to, 0, to, 0, count);
            System.arraycopy(other.capacity, 0, capacity, 0, count);
            System.arraycopy(other.price, 0, price, 0, count);
            System.arraycopy(other.delay, 0, delay, 0, count);
            System.arraycopy(other.promised, 0, promised, 0, count);
            System.arraycopy(other.failures, 0, failures, 0, count);
        }
    }

    /** The tickets that have been issued, by their number. */
    private static final class Tickets {
        final int[] request = new int[MOST_TICKETS];
        final int[] link = new int[MOST_TICKETS];
        final int[] units = new int[MOST_TICKETS];
        final int[] issued = new int[MOST_TICKETS];
        final int[] expiry = new int[MOST_TICKETS];
        final int[] state = new int[MOST_TICKETS];
        final int[] price = new int[MOST_TICKETS];
        final int[] refunded = new int[MOST_TICKETS];
        int count = 0;

        boolean isFull() {
            return count >= MOST_TICKETS;
        }

        boolean isPromised(int ticket) {
            return state[ticket] == HELD || state[ticket] == CONFIRMED;
        }

        boolean hasPromiseOn(int holder, int place) {
            for (int ticket = 0; ticket < count; ticket++) {
                if (request[ticket] == holder && link[ticket] == place && isPromised(ticket)) {
                    return true;
                }
            }
            return false;
        }

        int promisedOn(int place, int index) {
            int before = 0;
            for (int ticket = 0; ticket < count; ticket++) {
                if (link[ticket] == place && isPromised(ticket)) {
                    if (before == index) {
                        return ticket;
                    }
                    before++;
                }
            }
            return NONE;
        }

        int countWith(int holder, int wanted) {
            int found = 0;
            for (int ticket = 0; ticket < count; ticket++) {
                found += request[ticket] == holder && state[ticket] == wanted ? 1 : 0;
            }
            return found;
        }

        int firstExpiry() {
            int first = NONE;
            for (int ticket = 0; ticket < count; ticket++) {
                if (state[ticket] == HELD && (first == NONE || expiry[ticket] < first)) {
                    first = expiry[ticket];
                }
            }
            return first;
        }

        /** Moves the expiry of a request's held tickets to a later time; answers how many are held. */
        int postpone(int holder, int later) {
            int held = 0;
            for (int ticket = 0; ticket < count; ticket++) {
                if (request[ticket] == holder && state[ticket] == HELD) {
                    held++;
                    expiry[ticket] = Math.max(expiry[ticket], later);
                }
            }
            return held;
        }

        int value(int ticket, int what) {
            switch (what) {
                case 0: return request[ticket];
                case 1: return link[ticket];
                case 2: return units[ticket];
                case 3: return issued[ticket];
                case 4: return expiry[ticket];
                case 5: return state[ticket];
                case 6: return price[ticket];
                default: return refunded[ticket];
            }
        }

        void copyFrom(Tickets other) {
            count = other.count;
            System.arraycopy(other.request, 0, request, 0, count);
            System.arraycopy(other.link, 0, link, 0, count);
            System.arraycopy(other.units, 0, units, 0, count);
            System.arraycopy(other.issued, 0, issued, 0, count);
            System.arraycopy(other.expiry, 0, expiry, 0, count);
            System.arraycopy(other.state, 0, state, 0, count);
            System.arraycopy(other.price, 0, price, 0, count);
            System.arraycopy(other.refunded, 0, refunded, 0, count);
        }
    }

    /** The requests that have been made, by their number. */
    private static final class Requests {
        final int[] source = new int[MOST_REQUESTS];
        final int[] target = new int[MOST_REQUESTS];
        final int[] units = new int[MOST_REQUESTS];
        final int[] duration = new int[MOST_REQUESTS];
        final int[] state = new int[MOST_REQUESTS];
        final int[] failures = new int[MOST_REQUESTS];
        /** When the message or the next attempt is due; NONE in the states without one. */
        final int[] due = new int[MOST_REQUESTS];
        final int[] paid = new int[MOST_REQUESTS];
        final int[] refunded = new int[MOST_REQUESTS];
        final int[] excluded = new int[MOST_REQUESTS];
        final int[] begin = new int[MOST_REQUESTS];
        final int[] end = new int[MOST_REQUESTS];
        final int[] failedLink = new int[MOST_REQUESTS];
        final int[] length = new int[MOST_REQUESTS];
        /** The index, on the path, of the node where the message is due. */
        final int[] place = new int[MOST_REQUESTS];
        final int[][] path = new int[MOST_REQUESTS][LONGEST_PATH];
        /** The tickets that the present attempt was issued for the links of its path. */
        final int[][] pathTicket = new int[MOST_REQUESTS][LONGEST_PATH];
        int count = 0;

        /** A new request is one that waits for its first attempt, which is due at once. */
        void add(int from, int to, int wanted, int ticks, int now) {
            source[count] = from;
            target[count] = to;
            units[count] = wanted;
            duration[count] = ticks;
            state[count] = WAITING;
            failures[count] = 0;
            due[count] = now;
            paid[count] = 0;
            refunded[count] = 0;
            excluded[count] = 0;
            begin[count] = NONE;
            end[count] = NONE;
            failedLink[count] = NONE;
            length[count] = 0;
            place[count] = 0;
            count++;
        }

        boolean isOnItsWay(int request) {
            return state[request] == FORWARD || state[request] == BACK || state[request] == WAITING;
        }

        int countWith(int wanted) {
            int found = 0;
            for (int request = 0; request < count; request++) {
                found += state[request] == wanted ? 1 : 0;
            }
            return found;
        }

        int numberWith(int wanted, int index) {
            int before = 0;
            for (int request = 0; request < count; request++) {
                if (state[request] == wanted) {
                    if (before == index) {
                        return request;
                    }
                    before++;
                }
            }
            return NONE;
        }

        long total(int[] amounts) {
            long sum = 0;
            for (int request = 0; request < count; request++) {
                sum += amounts[request];
            }
            return sum;
        }

        int value(int request, int what) {
            switch (what) {
                case 0: return source[request];
                case 1: return target[request];
                case 2: return units[request];
                case 3: return duration[request];
                case 4: return state[request];
                case 5: return failures[request];
                case 6: return due[request];
                case 7: return paid[request];
                case 8: return refunded[request];
                case 9: return excluded[request];
                case 10: return begin[request];
                case 11: return end[request];
                default: return failedLink[request];
            }
        }

        void copyFrom(Requests other) {
            count = other.count;
            System.arraycopy(other.source, 0, source, 0, count);
            System.arraycopy(other.target, 0, target, 0, count);
            System.arraycopy(other.units, 0, units, 0, count);
            System.arraycopy(other.duration, 0, duration, 0, count);
            System.arraycopy(other.state, 0, state, 0, count);
            System.arraycopy(other.failures, 0, failures, 0, count);
            System.arraycopy(other.due, 0, due, 0, count);
            System.arraycopy(other.paid, 0, paid, 0, count);
            System.arraycopy(other.refunded, 0, refunded, 0, count);
            System.arraycopy(other.excluded, 0, excluded, 0, count);
            System.arraycopy(other.begin, 0, begin, 0, count);
            System.arraycopy(other.end, 0, end, 0, count);
            System.arraycopy(other.failedLink, 0, failedLink, 0, count);
            System.arraycopy(other.length, 0, length, 0, count);
            System.arraycopy(other.place, 0, place, 0, count);
            for (int request = 0; request < count; request++) {
                System.arraycopy(other.path[request], 0, path[request], 0, LONGEST_PATH);
                System.arraycopy(other.pathTicket[request], 0, pathTicket[request], 0, LONGEST_PATH);
            }
        }
    }

    /** Everything that a snapshot contains, and what happens in it. */
    private static final class World {
        final Links links = new Links();
        final Tickets tickets = new Tickets();
        final Requests requests = new Requests();
        final Paths paths = new Paths();
        final int[] settings = new int[SETTINGS];
        final long[] names = new long[MOST_NODES];
        int nodes = 0;
        int time = 0;

        World() {
            System.arraycopy(USUAL_SETTING, 0, settings, 0, SETTINGS);
        }

        void clear() {
            links.count = 0;
            links.up = 0;
            tickets.count = 0;
            requests.count = 0;
            nodes = 0;
            time = 0;
            System.arraycopy(USUAL_SETTING, 0, settings, 0, SETTINGS);
        }

        void copyFrom(World other) {
            links.copyFrom(other.links);
            tickets.copyFrom(other.tickets);
            requests.copyFrom(other.requests);
            System.arraycopy(other.settings, 0, settings, 0, SETTINGS);
            System.arraycopy(other.names, 0, names, 0, MOST_NODES);
            nodes = other.nodes;
            time = other.time;
        }

        void addNode(long name) {
            if (nodes < MOST_NODES) {
                names[nodes] = name;
                nodes++;
            }
        }

        int nodeWithName(long name) {
            for (int node = 0; node < nodes; node++) {
                if (names[node] == name) {
                    return node;
                }
            }
            return NONE;
        }

        /** Answers the number of the request; FULL if there can be no more. */
        int makeRequest(int source, int target, int units, int duration) {
            int request = requests.count;
            if (request >= MOST_REQUESTS) {
                return FULL;
            }
            requests.add(source, target, units, duration, time);
            treat(request);
            return request;
        }

        /** Treats a request until it is due later or has nothing more to do. */
        private void treat(int request) {
            for (int i = 0; i < LOOP_END && requests.due[request] == time; i++) {
                int state = requests.state[request];
                if (state == WAITING) {
                    beginAttempt(request);
                    continue;
                }
                int failedLink = state == FORWARD ? goForward(request) : goBack(request);
                if (failedLink != NONE) {
                    failAttempt(request, failedLink);
                }
            }
        }

        private void beginAttempt(int request) {
            int usable = links.up & ~requests.excluded[request];
            int length = paths.find(links, requests.source[request], requests.target[request], usable);
            if (length == 0) {
                settle(request, FAILED);
                return;
            }
            System.arraycopy(paths.link, 0, requests.path[request], 0, length);
            requests.length[request] = length;
            requests.place[request] = 0;
            requests.state[request] = FORWARD;
        }

        /** Answers the link at which the attempt fails; NONE if it goes on. */
        private int goForward(int request) {
            int place = requests.place[request];
            if (place >= requests.length[request]) {
                requests.state[request] = BACK;
                return NONE;
            }
            int link = requests.path[request][place];
            boolean enough = links.isUp(link) && links.available(link) >= requests.units[request];
            if (!enough || tickets.isFull()) {
                return link;
            }
            requests.pathTicket[request][place] = issueTicket(request, link);
            requests.place[request] = place + 1;
            requests.due[request] = time + links.delay[link];
            return NONE;
        }

        private int issueTicket(int request, int link) {
            int ticket = tickets.count;
            int units = requests.units[request];
            tickets.request[ticket] = request;
            tickets.link[ticket] = link;
            tickets.units[ticket] = units;
            tickets.issued[ticket] = time;
            tickets.expiry[ticket] = time + settings[HOLD];
            tickets.state[ticket] = HELD;
            tickets.price[ticket] = links.price[link] * units;
            tickets.refunded[ticket] = 0;
            tickets.count++;
            links.promised[link] += units;
            requests.paid[request] += tickets.price[ticket];
            return ticket;
        }

        /** Answers the link at which the attempt fails; NONE if it goes on. */
        private int goBack(int request) {
            int place = requests.place[request] - 1;
            if (place < 0) {
                requests.begin[request] = time;
                requests.end[request] = time + requests.duration[request];
                settle(request, ACTIVE);
                return NONE;
            }
            int link = requests.path[request][place];
            int ticket = requests.pathTicket[request][place];
            if (tickets.state[ticket] != HELD) {
                return link;
            }
            tickets.state[ticket] = CONFIRMED;
            requests.place[request] = place;
            requests.due[request] = time + links.delay[link];
            return NONE;
        }

        private void failAttempt(int request, int link) {
            releaseAll(request, 1, 1, 100);
            requests.excluded[request] |= 1 << link;
            requests.failures[request]++;
            requests.failedLink[request] = link;
            links.failures[link]++;
            if (requests.failures[request] >= settings[TRIES]) {
                settle(request, FAILED);
            } else {
                requests.state[request] = WAITING;
                requests.due[request] = time + settings[RETRY];
            }
        }

        /** Brings a request to a state in which no message and no attempt is due. */
        private void settle(int request, int state) {
            requests.state[request] = state;
            requests.due[request] = NONE;
        }

        /** Releases what is promised to a request and refunds price * left / span * percent / 100 of it. */
        private int releaseAll(int request, int left, int span, int percent) {
            int sum = 0;
            for (int ticket = 0; ticket < tickets.count; ticket++) {
                if (tickets.request[ticket] == request && tickets.isPromised(ticket)) {
                    long share = span < 1 ? 0 : (long) tickets.price[ticket] * left / span;
                    int refund = (int) (share * percent / 100);
                    release(ticket, RELEASED, refund);
                    sum += refund;
                }
            }
            return sum;
        }

        private void release(int ticket, int state, int refund) {
            tickets.state[ticket] = state;
            tickets.refunded[ticket] += refund;
            requests.refunded[tickets.request[ticket]] += refund;
            links.promised[tickets.link[ticket]] -= tickets.units[ticket];
        }

        long revenueNow() {
            return requests.total(requests.paid) - requests.total(requests.refunded);
        }

        int cancelRequest(int request) {
            boolean active = requests.state[request] == ACTIVE;
            int left = active ? requests.end[request] - time : 1;
            int span = active ? requests.duration[request] : 1;
            settle(request, CANCELLED);
            requests.end[request] = time;
            return releaseAll(request, left, span, settings[CANCEL]);
        }

        /** Takes a link down; answers how many requests lose a ticket by that. */
        int closeLink(int link) {
            int touched = 0;
            links.up &= ~(1 << link);
            for (int request = 0; request < requests.count; request++) {
                if (tickets.hasPromiseOn(request, link)) {
                    touched++;
                    if (requests.state[request] == ACTIVE) {
                        releaseAll(request, requests.end[request] - time, requests.duration[request], 100);
                        settle(request, BROKEN);
                        requests.end[request] = time;
                    } else {
                        failAttempt(request, link);
                    }
                }
            }
            return touched;
        }

        /** When the next thing happens by itself; NONE if nothing does. */
        int nextHappening() {
            int next = tickets.firstExpiry();
            for (int request = 0; request < requests.count; request++) {
                boolean active = requests.state[request] == ACTIVE;
                int own = active ? requests.end[request] : requests.due[request];
                if (own != NONE && (next == NONE || own < next)) {
                    next = own;
                }
            }
            return next;
        }

        /** Lets the ticks pass up to the next thing that happens, but none behind the latest time. */
        private void passNext(int latest) {
            int next = nextHappening();
            time = next == NONE || next > latest ? latest : next;
            expireTickets();
            endRequests();
            for (int request = 0; request < requests.count; request++) {
                treat(request);
            }
        }

        private void expireTickets() {
            for (int ticket = 0; ticket < tickets.count; ticket++) {
                if (tickets.state[ticket] == HELD && tickets.expiry[ticket] == time) {
                    release(ticket, EXPIRED, tickets.price[ticket] * settings[EXPIRE] / 100);
                }
            }
        }

        private void endRequests() {
            for (int request = 0; request < requests.count; request++) {
                if (requests.state[request] == ACTIVE && requests.end[request] == time) {
                    releaseAll(request, 1, 1, 0);
                    settle(request, DONE);
                }
            }
        }

        void passTo(int latest) {
            for (int i = 0; i < LOOP_END && time < latest; i++) {
                passNext(latest);
            }
        }

        int passUntilActive(int request) {
            int now = time;
            int latest = now + FORESIGHT;
            for (int i = 0; i < LOOP_END && time < latest && requests.isOnItsWay(request); i++) {
                passNext(latest);
            }
            return requests.state[request] == ACTIVE ? time - now : NONE;
        }

        int passUntilAvailable(int link, int units) {
            int now = time;
            int latest = now + FORESIGHT;
            for (int i = 0; i < LOOP_END && time < latest && links.available(link) < units; i++) {
                passNext(latest);
            }
            return links.available(link) >= units ? time - now : NONE;
        }

        int passUntilQuiet() {
            int now = time;
            int latest = now + QUIET_FORESIGHT;
            int next = nextHappening();
            for (int i = 0; i < LOOP_END && next != NONE && next <= latest; i++) {
                passNext(latest);
                next = nextHappening();
            }
            return next == NONE ? time - now : NONE;
        }
    }

    /** Searches among the paths over some links, which are given as bits. */
    private static final class Paths {
        /** One link more costs more than nothing, but less than one price more on any path. */
        private static final int PRICE_WEIGHT = 16;
        private static final int FAR = 1000000000;

        /** The path that was found last. */
        final int[] link = new int[LONGEST_PATH];
        int length = 0;
        private final int[] distance = new int[MOST_NODES];

        /** Finds the first path of section 3 of the document; answers its length, 0 if there is none. */
        int find(Links links, int source, int target, int usable) {
            length = 0;
            measure(links, target, usable);
            if (distance[source] == FAR) {
                return 0;
            }
            int node = source;
            for (int i = 0; i < LONGEST_PATH && node != target; i++) {
                int next = firstStep(links, node, usable);
                if (next == NONE) {
                    return 0;
                }
                link[i] = next;
                length = i + 1;
                node = links.to[next];
            }
            return length;
        }

        /** Finds how far every node is from the target, by prices first and by links then. */
        private void measure(Links links, int target, int usable) {
            for (int node = 0; node < MOST_NODES; node++) {
                distance[node] = node == target ? 0 : FAR;
            }
            boolean changed = true;
            for (int round = 0; round < MOST_NODES && changed; round++) {
                changed = false;
                for (int k = 0; k < links.count; k++) {
                    int over = distance[links.to[k]] + links.price[k] * PRICE_WEIGHT + 1;
                    if ((usable >> k & 1) != 0 && over < distance[links.from[k]]) {
                        distance[links.from[k]] = over;
                        changed = true;
                    }
                }
            }
        }

        /** The lowest link by which a shortest way to the target can begin. */
        private int firstStep(Links links, int node, int usable) {
            for (int k = 0; k < links.count; k++) {
                if ((usable >> k & 1) != 0 && links.from[k] == node) {
                    int over = distance[links.to[k]] + links.price[k] * PRICE_WEIGHT + 1;
                    if (over == distance[node]) {
                        return k;
                    }
                }
            }
            return NONE;
        }

        /** The sum of a property of the links of the path that was found last, from an index on. */
        int sumAlong(int[] property, int begin) {
            int sum = 0;
            for (int i = begin; i < length; i++) {
                sum += property[link[i]];
            }
            return sum;
        }

        /** The nodes to which there is a path, bit k for node k, the first node included. */
        int reachedFrom(Links links, int source, int usable) {
            int reached = 1 << source;
            int before = 0;
            for (int round = 0; round < MOST_NODES && reached != before; round++) {
                before = reached;
                for (int k = 0; k < links.count; k++) {
                    boolean leads = (usable >> k & 1) != 0 && (reached >> links.from[k] & 1) != 0;
                    reached |= leads ? 1 << links.to[k] : 0;
                }
            }
            return reached;
        }

        /** The greatest number of units that all links of one path have available. */
        int width(Links links, int source, int target) {
            int widest = 0;
            for (int k = 0; k < links.count; k++) {
                int units = links.available(k);
                if (links.isUp(k) && units > widest) {
                    int reached = reachedFrom(links, source, links.withUnits(units));
                    widest = (reached >> target & 1) != 0 ? units : widest;
                }
            }
            return widest;
        }
    }

    /** A greatest flow from one node to another, grown along shortest ways. */
    private static final class Flow {
        private final int[] most = new int[MOST_LINKS];
        private final int[] flowing = new int[MOST_LINKS];
        private final int[] queue = new int[MOST_NODES];
        /** By which link a node was reached. */
        private final int[] entry = new int[MOST_NODES];
        /** Bit k tells whether node k was reached in the latest search. */
        private int reached = 0;

        void allowAvailable(Links links) {
            for (int k = 0; k < links.count; k++) {
                most[k] = links.isUp(k) ? links.available(k) : 0;
            }
        }

        void allowOne(int usable) {
            for (int k = 0; k < MOST_LINKS; k++) {
                most[k] = usable >> k & 1;
            }
        }

        boolean isReached(int node) {
            return (reached >> node & 1) != 0;
        }

        /** Lets as much flow as is allowed; answers how much that is. */
        int fill(Links links, int source, int target) {
            Arrays.fill(flowing, 0);
            int total = 0;
            search(links, source);
            for (int i = 0; i < LOOP_END && isReached(target); i++) {
                total += growOneWay(links, source, target);
                search(links, source);
            }
            return total;
        }

        private void search(Links links, int source) {
            reached = 1 << source;
            queue[0] = source;
            int tail = 1;
            for (int head = 0; head < tail && head < MOST_NODES; head++) {
                for (int k = 0; k < links.count; k++) {
                    int next = across(links, k, queue[head]);
                    if (next != NONE && !isReached(next) && tail < MOST_NODES) {
                        reached |= 1 << next;
                        entry[next] = k;
                        queue[tail] = next;
                        tail++;
                    }
                }
            }
        }

        /** The node to which more can be moved from a node by a link, forward or by taking flow back. */
        private int across(Links links, int k, int node) {
            if (links.from[k] == node && flowing[k] < most[k]) {
                return links.to[k];
            }
            return links.to[k] == node && flowing[k] > 0 ? links.from[k] : NONE;
        }

        private int growOneWay(Links links, int source, int target) {
            int room = LOOP_END;
            int node = target;
            for (int i = 0; i < MOST_NODES && node != source; i++) {
                int k = entry[node];
                boolean forward = links.to[k] == node;
                room = Math.min(room, forward ? most[k] - flowing[k] : flowing[k]);
                node = forward ? links.from[k] : links.to[k];
            }
            node = target;
            for (int i = 0; i < MOST_NODES && node != source; i++) {
                int k = entry[node];
                boolean forward = links.to[k] == node;
                flowing[k] += forward ? room : -room;
                node = forward ? links.from[k] : links.to[k];
            }
            return room;
        }
    }

    /** The input buffer; reads a configuration from left to right, up to its first error. */
    private static final class Input {
        private static final int MISPLACED = 1;
        private static final int OUT_OF_RANGE = 2;
        private static final int BAD_NAME = 3;
        private static final int TOO_MANY = 4;
        /** Stands for a text that is no name: names are packed as numbers, and none of them is 0. */
        private static final long NO_NAME = 0;

        /** The first error of the configuration that was read last; 0 without one. */
        int error = 0;
        int errorAt = 0;
        private final byte[] text = new byte[MOST_BYTES];
        private int length = 0;
        private int at = 0;
        private int wordAt = 0;

        int add(long bytes) {
            int added = 0;
            for (int shift = 56; shift >= 0; shift -= 8) {
                added += (bytes >>> shift & 255) != 0 ? 1 : 0;
            }
            if (length + added > MOST_BYTES) {
                return FULL;
            }
            for (int shift = 56; shift >= 0; shift -= 8) {
                byte next = (byte) (bytes >>> shift);
                if (next != 0 && length < MOST_BYTES) {
                    text[length] = next;
                    length++;
                }
            }
            return length;
        }

        /** Empties the buffer; answers all that was in it as a packed name. */
        long takeName() {
            long name = NO_NAME;
            for (int i = 0; i < length && i < LONGEST_NAME; i++) {
                name = name << 8 | text[i] & 255;
            }
            boolean tooLong = length > LONGEST_NAME;
            length = 0;
            return tooLong ? NO_NAME : name;
        }

        /** Empties the buffer, too. */
        void readInto(World into) {
            at = 0;
            error = 0;
            errorAt = 0;
            into.clear();
            readStatement(into);
            for (int i = 0; i < MOST_BYTES && error == 0 && !isAtEnd(); i++) {
                readSemicolon();
                readStatement(into);
            }
            length = 0;
        }

        private void readStatement(World into) {
            long word = readWord();
            int keywordAt = wordAt;
            int what = settingOf(word);
            if (error != 0) {
                return;
            }
            if (word == packed("node")) {
                readNode(into, keywordAt);
            } else if (word == packed("link")) {
                readLink(into, keywordAt);
            } else if (what != NONE) {
                into.settings[what] = readNumber(LEAST_SETTING[what], GREATEST_SETTING[what]);
            } else {
                fail(MISPLACED, keywordAt);
            }
        }

        private static int settingOf(long word) {
            if (word == packed("hold")) {
                return HOLD;
            } else if (word == packed("retry")) {
                return RETRY;
            } else if (word == packed("tries")) {
                return TRIES;
            } else if (word == packed("expire")) {
                return EXPIRE;
            }
            return word == packed("cancel") ? CANCEL : NONE;
        }

        private void readNode(World into, int keywordAt) {
            if (into.nodes >= MOST_NODES) {
                fail(TOO_MANY, keywordAt);
                return;
            }
            long name = readWord();
            if (name == NO_NAME || into.nodeWithName(name) != NONE) {
                fail(BAD_NAME, wordAt);
            }
            if (error == 0) {
                into.addNode(name);
            }
        }

        private void readLink(World into, int keywordAt) {
            if (into.links.count >= MOST_LINKS) {
                fail(TOO_MANY, keywordAt);
                return;
            }
            int from = readKnownNode(into);
            int to = readKnownNode(into);
            if (from == to) {
                fail(BAD_NAME, wordAt);
            }
            int capacity = readNumber(0, 1000);
            int price = readNumber(0, 1000);
            int delay = readNumber(1, 50);
            if (error == 0) {
                into.links.add(from, to, capacity, price, delay);
            }
        }

        private int readKnownNode(World into) {
            int node = into.nodeWithName(readWord());
            if (node == NONE) {
                fail(BAD_NAME, wordAt);
            }
            return node;
        }

        /** Answers a word as packed() does, or NO_NAME if it has too many letters. */
        private long readWord() {
            skipSpaces();
            wordAt = at;
            long word = 0;
            for (int i = 0; i < MOST_BYTES && isNextBetween('a', 'z'); i++) {
                word = i < LONGEST_NAME ? word << 8 | text[at] : NO_NAME;
                at++;
            }
            if (at == wordAt) {
                fail(MISPLACED, at);
            }
            return word;
        }

        private int readNumber(int least, int greatest) {
            skipSpaces();
            int start = at;
            int number = 0;
            for (int i = 0; i < MOST_BYTES && isNextBetween('0', '9'); i++) {
                number = Math.min(number * 10 + text[at] - '0', LOOP_END);
                at++;
            }
            if (at == start) {
                fail(MISPLACED, at);
            } else if (number < least || number > greatest) {
                fail(OUT_OF_RANGE, start);
            }
            return number;
        }

        private void readSemicolon() {
            if (at < length && text[at] == ';') {
                at++;
            } else {
                fail(MISPLACED, at);
            }
        }

        private boolean isAtEnd() {
            skipSpaces();
            return at >= length;
        }

        private void skipSpaces() {
            for (int i = 0; i < MOST_BYTES && at < length && text[at] == ' '; i++) {
                at++;
            }
        }

        private boolean isNextBetween(char first, char last) {
            return at < length && text[at] >= first && text[at] <= last;
        }

        private void fail(int number, int position) {
            if (error == 0) {
                error = number;
                errorAt = position;
            }
        }

        /** The letters as one number, a byte a letter, the last letter lowest. */
        private static long packed(String word) {
            long letters = 0;
            for (int i = 0; i < word.length(); i++) {
                letters = letters << 8 | word.charAt(i);
            }
            return letters;
        }
    }
}
