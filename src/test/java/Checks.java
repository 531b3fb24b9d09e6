import java.util.Objects;

/** Counts checks, prints those that fail and ends the program accordingly. */
final class Checks {
    /** A call whose answer or exception is looked at. */
    interface Call {
        long answer();
    }

    private static final int PRINTED_AT_MOST = 50;
    private static final long SECONDS_AT_MOST = 600;

    private final String name;
    private int good = 0;
    private int bad = 0;

    Checks(String name) {
        this.name = name;
        Thread watch = new Thread(this::endLate);
        watch.setDaemon(true);
        watch.start();
    }

    /** A program that never ends must fail instead of holding up the run. */
    private void endLate() {
        try {
            Thread.sleep(SECONDS_AT_MOST * 1000);
        } catch (InterruptedException e) {
            return;
        }
        System.out.println(name + ": still running after " + SECONDS_AT_MOST + " seconds");
        Runtime.getRuntime().halt(1);
    }

    void equal(String what, long got, long want) {
        same(what, got, want);
    }

    void same(String what, Object got, Object want) {
        if (Objects.equals(got, want)) {
            good++;
            return;
        }
        bad++;
        if (bad <= PRINTED_AT_MOST) {
            System.out.println(name + ": " + what + ": got " + got + ", due is " + want);
        }
    }

    void index(String what, Call call) {
        same(what, thrownBy(call), IndexOutOfBoundsException.class);
    }

    void argument(String what, Call call) {
        same(what, thrownBy(call), IllegalArgumentException.class);
    }

    private static Class<?> thrownBy(Call call) {
        try {
            call.answer();
            return null;
        } catch (RuntimeException e) {
            return e.getClass();
        }
    }

    boolean isBad() {
        return bad > 0;
    }

    void end() {
        System.out.println(name + ": " + good + " checks good, " + bad + " bad");
        System.exit(bad == 0 && good > 0 ? 0 : 1);
    }
}
