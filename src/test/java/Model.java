import java.util.ArrayList;
import java.util.Comparator;
import java.util.HashSet;
import java.util.List;
import java.util.Set;
import java.util.TreeSet;
import java.util.function.BooleanSupplier;
import java.util.function.Predicate;

/**
 * The document written down once more, as plainly as possible and by other means than the class: all
 * paths are listed and sorted, all cuts are tried, every single tick is played. Its methods have the
 * names of the face, so that a test can call both by name.
 */
public final class Model {
    private static final int NONE = -1;
    private static final int FULL = -2;
    private static final int WRONG_STATE = -3;
    private static final int[] LEAST = {1, 1, 1, 0, 0};
    private static final int[] GREATEST = {500, 100, 9, 100, 100};
    private static final List<String> SETTINGS = List.of("hold", "retry", "tries", "expire", "cancel");

    private static final class Link {
        int from;
        int to;
        int capacity;
        int price;
        int delay;
        int failed;
        boolean up = true;

        Link copy() {
            Link c = new Link();
            c.from = from;
            c.to = to;
            c.capacity = capacity;
            c.price = price;
            c.delay = delay;
            c.failed = failed;
            c.up = up;
            return c;
        }
    }

    private static final class Ticket {
        int request;
        int link;
        int units;
        int issued;
        int expiry;
        int state;
        int price;
        int refunded;

        Ticket copy() {
            Ticket c = new Ticket();
            c.request = request;
            c.link = link;
            c.units = units;
            c.issued = issued;
            c.expiry = expiry;
            c.state = state;
            c.price = price;
            c.refunded = refunded;
            return c;
        }
    }

    private static final class Request {
        int source;
        int target;
        int units;
        int duration;
        int state = 7;
        int failed = 0;
        int due;
        int begin = NONE;
        int end = NONE;
        int failedLink = NONE;
        int place = 0;
        Set<Integer> excluded = new TreeSet<>();
        List<Integer> path = new ArrayList<>();
        List<Integer> attempt = new ArrayList<>();

        Request copy() {
            Request c = new Request();
            c.source = source;
            c.target = target;
            c.units = units;
            c.duration = duration;
            c.state = state;
            c.failed = failed;
            c.due = due;
            c.begin = begin;
            c.end = end;
            c.failedLink = failedLink;
            c.place = place;
            c.excluded = new TreeSet<>(excluded);
            c.path = new ArrayList<>(path);
            c.attempt = new ArrayList<>(attempt);
            return c;
        }
    }

    private static final class Misread extends RuntimeException {
        private static final long serialVersionUID = 1L;
        final int number;
        final int position;

        Misread(int number, int position) {
            this.number = number;
            this.position = position;
        }
    }

    /** Everything that a snapshot contains. */
    private static final class World {
        int time = 0;
        int[] settings = {20, 5, 3, 50, 80};
        List<String> names = new ArrayList<>();
        List<Link> links = new ArrayList<>();
        List<Ticket> tickets = new ArrayList<>();
        List<Request> requests = new ArrayList<>();

        World copy() {
            World c = new World();
            c.time = time;
            c.settings = settings.clone();
            c.names.addAll(names);
            links.forEach(l -> c.links.add(l.copy()));
            tickets.forEach(t -> c.tickets.add(t.copy()));
            requests.forEach(r -> c.requests.add(r.copy()));
            return c;
        }

        int promised(int link) {
            return tickets.stream().filter(t -> t.link == link && t.state <= 1).mapToInt(t -> t.units).sum();
        }

        int available(int link) {
            return links.get(link).capacity - promised(link);
        }

        boolean usable(int link, int units) {
            return links.get(link).up && available(link) >= units;
        }

        List<List<Integer>> paths(int source, int target, Predicate<Integer> allowed) {
            List<List<Integer>> found = new ArrayList<>();
            boolean[] open = new boolean[links.size()];
            for (int k = 0; k < open.length; k++) {
                open[k] = allowed.test(k);
            }
            collect(source, target, open, new ArrayList<>(), new HashSet<>(Set.of(source)), found);
            found.sort(this::compare);
            return found;
        }

        private void collect(int at, int target, boolean[] open, List<Integer> way,
                Set<Integer> seen, List<List<Integer>> found) {
            if (at == target) {
                found.add(new ArrayList<>(way));
                return;
            }
            for (int k = 0; k < links.size(); k++) {
                int next = links.get(k).to;
                if (links.get(k).from == at && !seen.contains(next) && open[k]) {
                    way.add(k);
                    seen.add(next);
                    collect(next, target, open, way, seen, found);
                    seen.remove(next);
                    way.remove(way.size() - 1);
                }
            }
        }

        private int compare(List<Integer> a, List<Integer> b) {
            int byPrice = Integer.compare(price(a), price(b));
            int order = byPrice != 0 ? byPrice : Integer.compare(a.size(), b.size());
            for (int i = 0; order == 0 && i < a.size(); i++) {
                order = Integer.compare(a.get(i), b.get(i));
            }
            return order;
        }

        int price(List<Integer> path) {
            return path.stream().mapToInt(k -> links.get(k).price).sum();
        }

        int delay(List<Integer> path) {
            return path.stream().mapToInt(k -> links.get(k).delay).sum();
        }

        int makeRequest(int source, int target, int units, int duration) {
            Request r = new Request();
            r.source = source;
            r.target = target;
            r.units = units;
            r.duration = duration;
            requests.add(r);
            attempt(r);
            return requests.size() - 1;
        }

        void attempt(Request r) {
            List<List<Integer>> ways = paths(r.source, r.target,
                k -> links.get(k).up && !r.excluded.contains(k));
            if (ways.isEmpty()) {
                r.state = 4;
                return;
            }
            r.path = ways.get(0);
            r.attempt = new ArrayList<>();
            r.state = 0;
            r.place = 0;
            forward(r);
        }

        void forward(Request r) {
            if (r.place == r.path.size()) {
                r.state = 1;
                back(r);
                return;
            }
            int k = r.path.get(r.place);
            if (!usable(k, r.units) || tickets.size() >= 500) {
                fail(r, k);
                return;
            }
            Ticket t = new Ticket();
            t.request = requests.indexOf(r);
            t.link = k;
            t.units = r.units;
            t.issued = time;
            t.expiry = time + settings[0];
            t.price = links.get(k).price * r.units;
            r.attempt.add(tickets.size());
            tickets.add(t);
            r.place++;
            r.due = time + links.get(k).delay;
        }

        void back(Request r) {
            if (r.place == 0) {
                r.state = 2;
                r.begin = time;
                r.end = time + r.duration;
                return;
            }
            int k = r.path.get(r.place - 1);
            Ticket t = tickets.get(r.attempt.get(r.place - 1));
            if (t.state == 2) {
                fail(r, k);
                return;
            }
            t.state = 1;
            r.place--;
            r.due = time + links.get(k).delay;
        }

        void fail(Request r, int k) {
            for (Ticket t : promisedTo(r)) {
                t.state = 3;
                t.refunded += t.price;
            }
            r.excluded.add(k);
            r.failed++;
            r.failedLink = k;
            links.get(k).failed++;
            r.state = r.failed >= settings[2] ? 4 : 7;
            r.due = time + settings[1];
        }

        List<Ticket> promisedTo(Request r) {
            int number = requests.indexOf(r);
            List<Ticket> found = new ArrayList<>();
            for (Ticket t : tickets) {
                if (t.request == number && t.state <= 1) {
                    found.add(t);
                }
            }
            return found;
        }

        boolean hasDue(Request r) {
            return r.state == 0 || r.state == 1 || r.state == 7;
        }

        void tick() {
            time++;
            for (Ticket t : tickets) {
                if (t.state == 0 && t.expiry == time) {
                    t.state = 2;
                    t.refunded += t.price * settings[3] / 100;
                }
            }
            for (Request r : requests) {
                if (r.state == 2 && r.end == time) {
                    promisedTo(r).forEach(t -> t.state = 3);
                    r.state = 3;
                }
            }
            for (Request r : requests) {
                if (hasDue(r) && r.due == time) {
                    if (r.state == 7) {
                        attempt(r);
                    } else if (r.state == 0) {
                        forward(r);
                    } else {
                        back(r);
                    }
                }
            }
        }

        int takeDown(int link) {
            links.get(link).up = false;
            int touched = 0;
            for (Request r : requests) {
                if (promisedTo(r).stream().anyMatch(t -> t.link == link)) {
                    touched++;
                    if (r.state == 2) {
                        for (Ticket t : promisedTo(r)) {
                            t.state = 3;
                            t.refunded += (int) ((long) t.price * (r.end - time) / r.duration);
                        }
                        r.state = 6;
                        r.end = time;
                    } else {
                        fail(r, link);
                    }
                }
            }
            return touched;
        }

        int cancel(Request r) {
            int sum = 0;
            for (Ticket t : promisedTo(r)) {
                long amount = r.state == 2 ? (long) t.price * (r.end - time) / r.duration : t.price;
                int refund = (int) (amount * settings[4] / 100);
                t.state = 3;
                t.refunded += refund;
                sum += refund;
            }
            r.state = 5;
            r.end = time;
            return sum;
        }

        int paid(int request) {
            return tickets.stream().filter(t -> t.request == request).mapToInt(t -> t.price).sum();
        }

        int refunded(int request) {
            return tickets.stream().filter(t -> t.request == request).mapToInt(t -> t.refunded).sum();
        }

        long paidByAll() {
            return tickets.stream().mapToLong(t -> t.price).sum();
        }

        long refundedToAll() {
            return tickets.stream().mapToLong(t -> t.refunded).sum();
        }

        int nextExpiry() {
            return tickets.stream().filter(t -> t.state == 0).mapToInt(t -> t.expiry).min().orElse(NONE);
        }

        int nextEvent() {
            int next = Integer.MAX_VALUE;
            if (nextExpiry() != NONE) {
                next = nextExpiry();
            }
            for (Request r : requests) {
                if (r.state == 2) {
                    next = Math.min(next, r.end);
                } else if (hasDue(r)) {
                    next = Math.min(next, r.due);
                }
            }
            return next == Integer.MAX_VALUE ? NONE : next;
        }

        void ticks(int number) {
            for (int i = 0; i < number; i++) {
                tick();
            }
        }

        int ticksUntil(int most, BooleanSupplier there) {
            for (int i = 0; i <= most; i++) {
                if (there.getAsBoolean()) {
                    return i;
                }
                tick();
            }
            return NONE;
        }
    }

    private World world = new World();
    private final World[] saved = new World[2];
    private final StringBuilder buffer = new StringBuilder();
    private int error = 0;

    public int append(long bytes) {
        StringBuilder more = new StringBuilder();
        for (int i = 7; i >= 0; i--) {
            char c = (char) (bytes >> 8 * i & 255);
            if (c != 0) {
                more.append(c);
            }
        }
        if (buffer.length() + more.length() > 700) {
            return FULL;
        }
        buffer.append(more);
        return buffer.length();
    }

    public int load() {
        String text = buffer.toString();
        buffer.setLength(0);
        try {
            world = read(text);
            error = 0;
            return world.links.size();
        } catch (Misread e) {
            error = e.number;
            return -100 - e.position;
        }
    }

    /** A word, a number, another byte ("!") or the end (""), with its position. */
    private record Token(char kind, String text, int position) {
    }

    private static List<Token> tokens(String text) {
        List<Token> found = new ArrayList<>();
        int i = 0;
        while (i < text.length()) {
            int start = i;
            char c = text.charAt(i);
            char kind = kindOf(c);
            i++;
            while ((kind == 'w' || kind == 'n') && i < text.length() && kindOf(text.charAt(i)) == kind) {
                i++;
            }
            if (kind != ' ') {
                found.add(new Token(kind, text.substring(start, i), start));
            }
        }
        found.add(new Token('e', "", text.length()));
        return found;
    }

    private static char kindOf(char c) {
        if (c >= 'a' && c <= 'z') {
            return 'w';
        }
        if (c >= '0' && c <= '9') {
            return 'n';
        }
        return c == ' ' || c == ';' ? c : '!';
    }

    private static World read(String text) {
        World w = new World();
        List<Token> tokens = tokens(text);
        int at = 0;
        while (true) {
            Token keyword = expect(tokens.get(at++), 'w');
            int setting = SETTINGS.indexOf(keyword.text);
            if (keyword.text.equals("node")) {
                check(w.names.size() < 12, 4, keyword);
                Token name = expect(tokens.get(at++), 'w');
                check(name.text.length() <= 6 && !w.names.contains(name.text), 3, name);
                w.names.add(name.text);
            } else if (keyword.text.equals("link")) {
                check(w.links.size() < 24, 4, keyword);
                Token from = expect(tokens.get(at++), 'w');
                check(w.names.contains(from.text), 3, from);
                Token to = expect(tokens.get(at++), 'w');
                check(w.names.contains(to.text) && !to.text.equals(from.text), 3, to);
                Link l = new Link();
                l.from = w.names.indexOf(from.text);
                l.to = w.names.indexOf(to.text);
                l.capacity = number(tokens.get(at++), 0, 1000);
                l.price = number(tokens.get(at++), 0, 1000);
                l.delay = number(tokens.get(at++), 1, 50);
                w.links.add(l);
            } else {
                check(setting >= 0, 1, keyword);
                w.settings[setting] = number(tokens.get(at++), LEAST[setting], GREATEST[setting]);
            }
            if (tokens.get(at).kind == 'e') {
                return w;
            }
            expect(tokens.get(at++), ';');
        }
    }

    private static Token expect(Token token, char kind) {
        check(token.kind == kind, 1, token);
        return token;
    }

    private static int number(Token token, int least, int greatest) {
        expect(token, 'n');
        java.math.BigInteger value = new java.math.BigInteger(token.text);
        check(value.bitLength() < 31 && value.intValue() >= least && value.intValue() <= greatest, 2, token);
        return value.intValue();
    }

    private static void check(boolean good, int number, Token token) {
        if (!good) {
            throw new Misread(number, token.position);
        }
    }

    public int loadError() {
        return error;
    }

    public int nodeNamed() {
        String name = buffer.toString();
        buffer.setLength(0);
        return world.names.indexOf(name);
    }

    public int nodeCount() {
        return world.names.size();
    }

    public int linkCount() {
        return world.links.size();
    }

    public int nameLetter(int node, int index) {
        index(node, world.names.size());
        String name = world.names.get(node);
        return index >= 0 && index < name.length() ? name.charAt(index) : NONE;
    }

    public int linkValue(int link, int what) {
        index(link, world.links.size());
        range(what, 0, 8);
        Link l = world.links.get(link);
        int[] values = {l.from, l.to, l.capacity, l.price, l.delay, world.promised(link),
            world.available(link), l.failed, l.up ? 1 : 0};
        return values[what];
    }

    public int setting(int what) {
        range(what, 0, 4);
        return world.settings[what];
    }

    public int setSetting(int what, int value) {
        range(what, 0, 4);
        range(value, LEAST[what], GREATEST[what]);
        int previous = world.settings[what];
        world.settings[what] = value;
        return previous;
    }

    public int setCapacity(int link, int capacity) {
        index(link, world.links.size());
        range(capacity, 0, 1000);
        if (world.promised(link) > capacity) {
            return WRONG_STATE;
        }
        int previous = world.links.get(link).capacity;
        world.links.get(link).capacity = capacity;
        return previous;
    }

    public int takeDown(int link) {
        index(link, world.links.size());
        return world.links.get(link).up ? world.takeDown(link) : WRONG_STATE;
    }

    public int bringUp(int link) {
        index(link, world.links.size());
        if (world.links.get(link).up) {
            return WRONG_STATE;
        }
        world.links.get(link).up = true;
        return world.time;
    }

    public int request(int source, int target, int units, int duration) {
        pair(source, target);
        range(units, 1, 1000);
        range(duration, 1, 10000);
        return world.requests.size() == 40 ? FULL : world.makeRequest(source, target, units, duration);
    }

    public int cancel(int request) {
        Request r = requestAt(request);
        return r.state <= 2 || r.state == 7 ? world.cancel(r) : WRONG_STATE;
    }

    public int extend(int request) {
        requestAt(request);
        int held = 0;
        for (Ticket t : world.tickets) {
            if (t.request == request && t.state == 0) {
                held++;
                t.expiry = Math.max(t.expiry, world.time + world.settings[0]);
            }
        }
        return held;
    }

    public int advance(int ticks) {
        range(ticks, 1, 1000);
        if (world.time + ticks > 1000000) {
            return FULL;
        }
        world.ticks(ticks);
        return world.time;
    }

    public int time() {
        return world.time;
    }

    public int requestCount() {
        return world.requests.size();
    }

    public int requestValue(int request, int what) {
        Request r = requestAt(request);
        range(what, 0, 12);
        int excluded = r.excluded.stream().mapToInt(k -> 1 << k).sum();
        int due = world.hasDue(r) ? r.due : NONE;
        int[] values = {r.source, r.target, r.units, r.duration, r.state, r.failed, due, world.paid(request),
            world.refunded(request), excluded, r.begin, r.end, r.failedLink};
        return values[what];
    }

    public int pathLength(int request) {
        return requestAt(request).path.size();
    }

    public int pathLink(int request, int index) {
        List<Integer> path = requestAt(request).path;
        return index >= 0 && index < path.size() ? path.get(index) : NONE;
    }

    public int placeOf(int request) {
        Request r = requestAt(request);
        return r.state <= 1 ? r.place : NONE;
    }

    public int inState(int state) {
        range(state, 0, 7);
        return (int) world.requests.stream().filter(r -> r.state == state).count();
    }

    public int requestInState(int state, int index) {
        range(state, 0, 7);
        List<Integer> found = new ArrayList<>();
        for (int i = 0; i < world.requests.size(); i++) {
            if (world.requests.get(i).state == state) {
                found.add(i);
            }
        }
        return index >= 0 && index < found.size() ? found.get(index) : NONE;
    }

    public int ticketCount() {
        return world.tickets.size();
    }

    public int ticketValue(int ticket, int what) {
        index(ticket, world.tickets.size());
        range(what, 0, 7);
        Ticket t = world.tickets.get(ticket);
        int[] values = {t.request, t.link, t.units, t.issued, t.expiry, t.state, t.price, t.refunded};
        return values[what];
    }

    public int ticketOn(int link, int index) {
        index(link, world.links.size());
        List<Integer> found = new ArrayList<>();
        for (int i = 0; i < world.tickets.size(); i++) {
            if (world.tickets.get(i).link == link && world.tickets.get(i).state <= 1) {
                found.add(i);
            }
        }
        return index >= 0 && index < found.size() ? found.get(index) : NONE;
    }

    public int ticketsInState(int state) {
        range(state, 0, 3);
        return (int) world.tickets.stream().filter(t -> t.state == state).count();
    }

    public int ticketsOf(int request, int state) {
        requestAt(request);
        range(state, 0, 3);
        return (int) world.tickets.stream().filter(t -> t.request == request && t.state == state).count();
    }

    public long revenue() {
        return world.paidByAll() - world.refundedToAll();
    }

    public long refunds() {
        return world.refundedToAll();
    }

    public int nextExpiry() {
        return world.nextExpiry();
    }

    public int nextEvent() {
        return world.nextEvent();
    }

    public boolean isSafe() {
        for (int k = 0; k < world.links.size(); k++) {
            if (world.available(k) < 0) {
                return false;
            }
        }
        return true;
    }

    public int cheapest(int source, int target, int units) {
        List<Integer> path = firstPath(source, target, units);
        return path == null ? NONE : world.price(path);
    }

    public int cheapestLink(int source, int target, int units, int index) {
        List<Integer> path = firstPath(source, target, units);
        return path == null || index < 0 || index >= path.size() ? NONE : path.get(index);
    }

    public int roundTrip(int source, int target, int units) {
        List<Integer> path = firstPath(source, target, units);
        return path == null ? NONE : 2 * world.delay(path);
    }

    public int neededHold(int source, int target, int units) {
        List<Integer> path = firstPath(source, target, units);
        if (path == null) {
            return NONE;
        }
        for (int hold = 1; true; hold++) {
            boolean enough = true;
            for (int i = 0; i < path.size(); i++) {
                int own = world.links.get(path.get(i)).delay;
                enough &= hold > 2 * world.delay(path.subList(i + 1, path.size())) + own;
            }
            if (enough) {
                return hold;
            }
        }
    }

    private List<Integer> firstPath(int source, int target, int units) {
        List<List<Integer>> paths = pathsWith(source, target, units);
        return paths.isEmpty() ? null : paths.get(0);
    }

    private List<List<Integer>> pathsWith(int source, int target, int units) {
        pair(source, target);
        range(units, 0, 1000);
        return world.paths(source, target, k -> world.usable(k, units));
    }

    public int widest(int source, int target) {
        int widest = 0;
        for (List<Integer> path : pathsWith(source, target, 0)) {
            widest = Math.max(widest, path.stream().mapToInt(world::available).min().orElse(0));
        }
        return widest;
    }

    public int greatestFlow(int source, int target) {
        pair(source, target);
        return smallest(source, target, flowable())[0];
    }

    private int[] flowable() {
        int[] most = new int[world.links.size()];
        for (int k = 0; k < most.length; k++) {
            most[k] = world.links.get(k).up ? world.available(k) : 0;
        }
        return most;
    }

    public int smallestCut(int source, int target) {
        pair(source, target);
        int side = smallest(source, target, flowable())[1];
        int cut = 0;
        for (int k = 0; k < world.links.size(); k++) {
            if (world.links.get(k).up && crosses(side, k)) {
                cut += 1 << k;
            }
        }
        return cut;
    }

    private boolean crosses(int side, int k) {
        return (side >> world.links.get(k).from & 1) == 1 && (side >> world.links.get(k).to & 1) == 0;
    }

    /**
     * The least sum over a cut, which is the greatest flow, and the nodes on the source's side in all
     * least cuts, which are those that can be reached when a greatest flow flows.
     */
    private int[] smallest(int source, int target, int[] most) {
        int least = Integer.MAX_VALUE;
        int side = 0;
        for (int set = 0; set < 1 << world.names.size(); set++) {
            if ((set >> source & 1) == 1 && (set >> target & 1) == 0) {
                int sum = 0;
                for (int k = 0; k < most.length; k++) {
                    sum += crosses(set, k) ? most[k] : 0;
                }
                side = sum < least ? set : sum == least ? side & set : side;
                least = Math.min(least, sum);
            }
        }
        return new int[] {least, side};
    }

    public int disjointPaths(int source, int target, int units) {
        pair(source, target);
        range(units, 0, 1000);
        int[] most = new int[world.links.size()];
        for (int k = 0; k < most.length; k++) {
            most[k] = world.usable(k, units) ? 1 : 0;
        }
        return smallest(source, target, most)[0];
    }

    public int reachable(int node, int units) {
        index(node, world.names.size());
        range(units, 0, 1000);
        int reached = 0;
        for (int other = 0; other < world.names.size(); other++) {
            boolean there = other == node
                || !world.paths(node, other, k -> world.usable(k, units)).isEmpty();
            reached += there ? 1 << other : 0;
        }
        return reached;
    }

    public int criticalLinks(int source, int target, int units) {
        List<List<Integer>> paths = pathsWith(source, target, units);
        int critical = 0;
        for (int k = 0; k < world.links.size(); k++) {
            int link = k;
            boolean onAll = !paths.isEmpty() && paths.stream().allMatch(p -> p.contains(link));
            critical += onAll ? 1 << k : 0;
        }
        return critical;
    }

    public int ticksUntilActive(int request) {
        requestAt(request);
        World w = world.copy();
        return w.ticksUntil(2000, () -> w.requests.get(request).state == 2);
    }

    public int ticksForNew(int source, int target, int units) {
        pair(source, target);
        range(units, 1, 1000);
        if (world.requests.size() == 40) {
            return FULL;
        }
        World w = world.copy();
        Request r = w.requests.get(w.makeRequest(source, target, units, 1));
        return w.ticksUntil(2000, () -> r.state == 2);
    }

    public int greatestNew(int source, int target) {
        pair(source, target);
        if (world.requests.size() == 40) {
            return FULL;
        }
        int greatest = NONE;
        for (int units = 1; units <= 512; units *= 2) {
            greatest = ticksForNew(source, target, units) > 0 ? units : greatest;
        }
        return greatest;
    }

    private World after(int ticks) {
        World w = world.copy();
        w.ticks(ticks);
        return w;
    }

    public long revenueAfter(int ticks) {
        range(ticks, 0, 2000);
        World w = after(ticks);
        return w.paidByAll() - w.refundedToAll();
    }

    public int availableAfter(int link, int ticks) {
        index(link, world.links.size());
        range(ticks, 0, 2000);
        return after(ticks).available(link);
    }

    public int ticksUntilAvailable(int link, int units) {
        index(link, world.links.size());
        range(units, 0, 1000);
        World w = world.copy();
        return w.ticksUntil(2000, () -> w.available(link) >= units);
    }

    public int stateAfter(int request, int ticks) {
        requestAt(request);
        range(ticks, 0, 2000);
        return after(ticks).requests.get(request).state;
    }

    public int activeWithout(int link, int ticks) {
        index(link, world.links.size());
        range(ticks, 0, 2000);
        World w = world.copy();
        if (w.links.get(link).up) {
            w.takeDown(link);
        }
        w.ticks(ticks);
        return (int) w.requests.stream().filter(r -> r.state == 2).count();
    }

    public int ticksUntilQuiet() {
        World w = world.copy();
        return w.ticksUntil(20000, () -> w.nextEvent() == NONE);
    }

    public int saveSnapshot(int slot) {
        range(slot, 0, 1);
        saved[slot] = world.copy();
        return world.time;
    }

    public int restoreSnapshot(int slot) {
        range(slot, 0, 1);
        if (saved[slot] == null) {
            return NONE;
        }
        world = saved[slot].copy();
        return world.time;
    }

    private Request requestAt(int request) {
        index(request, world.requests.size());
        return world.requests.get(request);
    }

    private void pair(int source, int target) {
        index(source, world.names.size());
        index(target, world.names.size());
        if (source == target) {
            throw new IllegalArgumentException();
        }
    }

    private static void index(int index, int count) {
        if (index < 0 || index >= count) {
            throw new IndexOutOfBoundsException();
        }
    }

    private static void range(int value, int least, int greatest) {
        if (value < least || value > greatest) {
            throw new IllegalArgumentException();
        }
    }
}
