import java.lang.reflect.InvocationTargetException;
import java.lang.reflect.Method;
import java.util.ArrayList;
import java.util.Arrays;
import java.util.HashMap;
import java.util.List;
import java.util.Map;
import java.util.Random;
import java.util.TreeMap;

/**
 * Random runs of calls on an object and on the Model, compared call by call. The runs are the same each
 * time: run n uses the random numbers of seed n. Arguments: the number of runs and the first seed; a
 * third one prints how often which answer came.
 */
public final class RandomRunsTest {
    private static final int CALLS_OF_A_RUN = 512;
    private static final int USUAL_RUNS = 1200;

    /** Name and kinds of arguments of all calls that change nothing, with a weight. */
    private static final String[] QUERIES = {
        "loadError 2", "nodeCount 1", "linkCount 1", "nameLetter node letter 3", "linkValue link what8 20",
        "setting what4 3", "time 2", "requestCount 2", "requestValue request what12 40",
        "pathLength request 8", "pathLink request index 10", "placeOf request 8", "inState state 6",
        "requestInState state index 6", "ticketCount 4", "ticketValue ticket what7 30",
        "ticketOn link index 10", "ticketsInState tstate 6", "ticketsOf request tstate 8", "revenue 6",
        "refunds 6", "nextExpiry 8", "nextEvent 8", "isSafe 2", "cheapest node node units 6",
        "cheapestLink node node units index 8", "roundTrip node node units 5",
        "neededHold node node units 5", "widest node node 6", "greatestFlow node node 6",
        "smallestCut node node 6", "disjointPaths node node units 6", "reachable node units 6",
        "criticalLinks node node units 6", "ticksUntilActive request 6", "ticksForNew node node units1 6",
        "greatestNew node node 2", "revenueAfter foresight 4", "availableAfter link foresight 4",
        "ticksUntilAvailable link units 4", "stateAfter request foresight 6",
        "activeWithout link foresight 4", "ticksUntilQuiet 1",
    };
    private static final String[] CHANGES = {
        "request node node units1 duration 24", "advance ticks 50", "cancel request 4", "extend request 4",
        "takeDown link 3", "bringUp link 6", "setCapacity link units 4", "setSetting what4 value 4",
        "saveSnapshot slot 2", "restoreSnapshot slot 1",
    };

    private final Random random;
    private final PathReservations real = new PathReservations();
    private final Model model = new Model();
    private final List<String> log = new ArrayList<>();
    private final Map<String, Integer> answers;
    private int mostUnits = 12;
    private final boolean quick;
    private String difference = "";

    private RandomRunsTest(long seed, Map<String, Integer> answers) {
        random = new Random(seed);
        this.answers = answers;
        quick = random.nextInt(4) != 0;
    }

    public static void main(String[] args) {
        int runs = args.length > 0 ? Integer.parseInt(args[0]) : USUAL_RUNS;
        int first = args.length > 1 ? Integer.parseInt(args[1]) : 1;
        Checks checks = new Checks("RandomRunsTest");
        Map<String, Integer> answers = new TreeMap<>();
        for (int seed = first; seed < first + runs && !checks.isBad(); seed++) {
            RandomRunsTest run = new RandomRunsTest(seed, answers);
            if (seed % 6 == 0) {
                run.readTexts();
            } else {
                run.play();
            }
            checks.same("run " + seed, run.difference, "");
        }
        if (args.length > 2) {
            answers.forEach((answer, times) -> System.out.println(answer + "  " + times));
        }
        checks.end();
    }

    // ---- the runs

    private boolean isOver() {
        return log.size() >= CALLS_OF_A_RUN || !difference.isEmpty();
    }

    private void play() {
        if (random.nextInt(10) != 0) {
            load(network());
        }
        while (!isOver()) {
            int kind = random.nextInt(300);
            if (kind == 0) {
                load(random.nextBoolean() ? network() : damaged(network()));
            } else if (kind < 4) {
                write(randomName());
                call("nodeNamed");
            } else if (kind < 110) {
                callAnyOf(CHANGES);
            } else {
                callAnyOf(QUERIES);
            }
        }
    }

    private void readTexts() {
        while (!isOver()) {
            String text = network();
            load(random.nextInt(5) == 0 ? text : damaged(text));
            call("loadError");
            for (int i = 0; i < 4; i++) {
                callAnyOf(new String[] {"nodeCount 1", "linkCount 1", "nameLetter node letter 4",
                    "linkValue link what8 8", "setting what4 2"});
            }
        }
    }

    private void callAnyOf(String[] calls) {
        int sum = 0;
        for (String call : calls) {
            sum += weight(call);
        }
        int left = random.nextInt(sum);
        for (String call : calls) {
            left -= weight(call);
            if (left < 0) {
                String[] parts = call.split(" ");
                Object[] args = new Object[parts.length - 2];
                for (int i = 0; i < args.length; i++) {
                    args[i] = argument(parts[i + 1], args);
                }
                call(parts[0], args);
                return;
            }
        }
    }

    private static int weight(String call) {
        return Integer.parseInt(call.substring(call.lastIndexOf(' ') + 1));
    }

    // ---- arguments

    private int argument(String kind, Object[] before) {
        if (random.nextInt(40) == 0) {
            int[] odd = {-1, Integer.MIN_VALUE, Integer.MAX_VALUE, 12, 24, 40, 500, 1001, 2001, 10001, 0};
            return odd[random.nextInt(odd.length)];
        }
        switch (kind) {
            case "node": return before[0] == null ? upTo(model.nodeCount()) : otherNode((Integer) before[0]);
            case "link": return upTo(model.linkCount());
            case "request": return lateUpTo(model.requestCount());
            case "ticket": return lateUpTo(model.ticketCount());
            case "letter": return random.nextInt(8) - 1;
            case "index": return random.nextInt(random.nextInt(4) == 0 ? 14 : 4) - (random.nextInt(9) == 0 ? 1 : 0);
            case "state": return edged(0, 7);
            case "tstate": return edged(0, 3);
            case "what4": return edged(0, 4);
            case "what7": return edged(0, 7);
            case "what8": return edged(0, 8);
            case "what12": return edged(0, 12);
            case "slot": return edged(0, 1);
            case "units": return random.nextInt(20) == 0 ? edged(0, 1000) : random.nextInt(mostUnits + 1);
            case "units1":
                boolean any = random.nextInt(20) == 0;
                return any ? edged(1, 1000) : 1 + random.nextInt(1 + random.nextInt(mostUnits));
            case "duration": return random.nextInt(6) == 0 ? edged(1, 10000) : 1 + random.nextInt(60);
            case "ticks": return random.nextInt(12) == 0 ? edged(1, 1000) : 1 + random.nextInt(9);
            case "foresight": return random.nextInt(8) == 0 ? edged(0, 2000) : random.nextInt(50);
            default: return value((Integer) before[0]);
        }
    }

    private int value(int what) {
        int[] greatest = {500, 100, 9, 100, 100};
        int most = what >= 0 && what < greatest.length ? greatest[what] : 100;
        return random.nextBoolean() ? edged(what < 3 ? 1 : 0, most) : random.nextInt(Math.min(most, 40) + 1);
    }

    /** Mostly one to which the first node has a path. */
    private int otherNode(int first) {
        int best = upTo(model.nodeCount());
        boolean exists = first >= 0 && first < model.nodeCount();
        for (int i = 0; exists && i < 6 && random.nextInt(12) != 0; i++) {
            boolean good = best != first && (model.reachable(first, 0) >> best & 1) != 0;
            best = good ? best : upTo(model.nodeCount());
        }
        return best;
    }

    private int upTo(int count) {
        return random.nextInt(30) == 0 ? count : random.nextInt(Math.max(count, 1));
    }

    /** Mostly one of the last ones, with which most happens. */
    private int lateUpTo(int count) {
        int early = upTo(count);
        return count > 6 && random.nextBoolean() ? count - 1 - random.nextInt(6) : early;
    }

    /** A number of the range, sometimes its ends, rarely the number before or behind it. */
    private int edged(int least, int greatest) {
        switch (random.nextInt(24)) {
            case 0: return least - 1;
            case 1: return greatest + 1;
            case 2: return least;
            case 3: return greatest;
            default: return least + random.nextInt(greatest - least + 1);
        }
    }

    private String randomName() {
        String[] odd = {"", "a ", " a", "aa", "A", "abcdefg", "b\u00e9", "a;"};
        return random.nextInt(3) == 0 ? odd[random.nextInt(odd.length)] : nodeName(random.nextInt(13));
    }

    // ---- texts

    private static String nodeName(int number) {
        String[] names = {"a", "bb", "ccc", "dddd", "node", "link", "hold", "z", "y", "abcdef", "abcdeg", "x", "w"};
        return names[number];
    }

    private String network() {
        StringBuilder text = new StringBuilder();
        int nodes = random.nextInt(60) == 0 ? random.nextInt(2) : 2 + random.nextInt(random.nextInt(4) == 0 ? 11 : 5);
        int links = nodes < 2 ? 0 : random.nextInt(30) == 0 ? 0 : 1 + random.nextInt(Math.min(24, nodes * 4));
        int capacity = random.nextInt(4) == 0 ? 1000 : 1 + random.nextInt(25);
        mostUnits = Math.max(1, capacity * 2 / 3);
        int price = random.nextInt(3) == 0 ? 1000 : random.nextInt(5);
        int delay = random.nextInt(4) == 0 ? 50 : 1 + random.nextInt(4);
        settings(text, random.nextInt(4));
        for (int i = 0; i < nodes; i++) {
            statement(text, "node", nodeName(i));
        }
        for (int i = 0; i < links; i++) {
            int from = random.nextInt(nodes);
            int to = quick && random.nextInt(3) == 0 ? (from + 1) % nodes : random.nextInt(nodes);
            to = to == from ? (from + 1) % nodes : to;
            statement(text, "link", nodeName(from), nodeName(to), "" + capacityUpTo(capacity),
                "" + random.nextInt(price + 1), "" + (1 + random.nextInt(delay)));
        }
        settings(text, random.nextInt(3));
        if (random.nextInt(40) == 0) {
            statement(text, "node", "more");
        }
        return text.length() == 0 ? "tries 3" : text.toString();
    }

    private int capacityUpTo(int most) {
        return random.nextInt(4) == 0 ? random.nextInt(most + 1) : most - random.nextInt(most / 2 + 1);
    }

    private void settings(StringBuilder text, int number) {
        String[] names = {"hold", "retry", "tries", "expire", "cancel"};
        int[] greatest = {quick ? 30 : 500, quick ? 10 : 100, 9, 100, 100};
        for (int i = 0; i < number; i++) {
            int what = random.nextInt(5);
            statement(text, names[what], "" + (1 + random.nextInt(greatest[what])));
        }
    }

    private void statement(StringBuilder text, String... parts) {
        if (text.length() > 0) {
            text.append(random.nextInt(20) == 0 ? " ;" : ";");
        }
        text.append(random.nextInt(20) == 0 ? "  " : "");
        text.append(String.join(random.nextInt(30) == 0 ? "  " : " ", parts));
    }

    /** The same text with one thing changed that may be an error. */
    private String damaged(String text) {
        String[] pieces = {" ", ";", "a", "z", "0", "7", "9999999999", "1001", "51", "501", "\u00e9", "A", "{",
            "`", "/", ":", "\t", "\u0001", "\u00ff", "abcdefg", " node q", "; node node ", ";link a bb 1 1 1",
            ";hold 0", ";retry 101", ";tries 10", ";expire 100", ";cancel 101", ";expire 101", ";cancel 100",
            ";hold 500", "00000000000020", ";link a a 1 1 1", ";link bb a 1001 1 1", ";link bb a 1 1001 1",
            ";link bb a 0 0 0", ";link bb a 1000 1000 50;", ";link bb a 1000 1000 51", "; ", ";holdx 5"};
        int from = random.nextInt(text.length() + 1);
        int to = Math.min(text.length(), from + (random.nextBoolean() ? 0 : random.nextInt(4)));
        String piece = random.nextInt(4) == 0 ? "" : pieces[random.nextInt(pieces.length)];
        switch (random.nextInt(4)) {
            case 0: return text + piece;
            case 1: return text.substring(0, from);
            default: return text.substring(0, from) + piece + text.substring(to);
        }
    }

    private void load(String text) {
        write(text);
        call("load");
    }

    /** Puts a text into the buffer, up to eight bytes a call, with a byte 0 here and there. */
    private void write(String text) {
        int at = 0;
        while (at < text.length()) {
            long bytes = 0;
            int number = random.nextInt(10) == 0 ? random.nextInt(9) : 8;
            for (int i = 0; i < number && at < text.length(); i++) {
                boolean left = number < 8 && random.nextInt(4) == 0;
                bytes = bytes << 8 | (left ? 0 : text.charAt(at));
                at += left ? 0 : 1;
            }
            call("append", bytes);
        }
    }

    // ---- calls

    private void call(String name, Object... args) {
        if (isOver()) {
            return;
        }
        String want = outcome(model, name, args);
        String got = outcome(real, name, args);
        String call = name + Arrays.toString(args) + " = " + want;
        log.add(call);
        answers.merge(summary(name, args, want), 1, Integer::sum);
        if (!got.equals(want)) {
            difference = String.join("\n", log) + "\nbut answered " + got;
        }
    }

    private static String summary(String name, Object[] args, String want) {
        boolean exact = name.startsWith("state") || name.equals("loadError")
            || name.equals("requestValue") && args[1].equals(4) || name.equals("ticketValue") && args[1].equals(5);
        boolean telling = want.matches("-[0-9]|throws.*");
        return name + (exact ? "@" : "") + " " + (telling || exact ? want : "a number");
    }

    private static final Map<String, Method> METHODS = new HashMap<>();

    private static String outcome(Object object, String name, Object[] args) {
        String key = object.getClass().getName() + name;
        Method method = METHODS.get(key);
        if (method == null) {
            for (Method each : object.getClass().getMethods()) {
                method = each.getName().equals(name) ? each : method;
            }
            METHODS.put(key, method);
        }
        try {
            return method.invoke(object, args).toString();
        } catch (InvocationTargetException e) {
            return "throws " + e.getCause().getClass().getSimpleName();
        } catch (IllegalAccessException e) {
            throw new IllegalStateException(e);
        }
    }
}
