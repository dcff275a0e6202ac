import java.util.function.LongSupplier;

/** Counts the answers that are not as due, and tells them. */
final class Check {
    private static final long MOST_MILLIS = 300_000;

    private int checks = 0;
    private int wrong = 0;

    /** A call that is not refused as it should be may run on for hours: that is a failed test, not one that hangs. */
    Check() {
        Thread watch = new Thread(() -> {
            try {
                Thread.sleep(MOST_MILLIS);
            } catch (InterruptedException e) {
                return;
            }
            System.out.println("the test does not end");
            Runtime.getRuntime().halt(1);
        });
        watch.setDaemon(true);
        watch.start();
    }

    void same(String what, long got, long due) {
        checks++;
        if (got != due) {
            wrong++;
            System.out.println(what + " answered " + got + ", due is " + due);
        }
    }

    void holds(String what, boolean so) {
        same(what, so ? 1 : 0, 1);
    }

    void waters(String what, WallDamp x, int... due) {
        for (int k = 0; k < due.length; k++) {
            same(what + ", water of cell " + k, x.told(k, 0), due[k]);
        }
    }

    void illegalArgument(String what, Runnable call) {
        thrown(what, call, IllegalArgumentException.class);
    }

    void illegalState(String what, Runnable call) {
        thrown(what, call, IllegalStateException.class);
    }

    private void thrown(String what, Runnable call, Class<?> due) {
        String got = outcome(() -> {
            call.run();
            return 0;
        });
        holds(what + " throws " + due.getSimpleName() + ", not " + got, got.equals("throws." + due.getSimpleName()));
    }

    /** A call's answer or the name of what it throws, as one text that can be compared. */
    static String outcome(LongSupplier call) {
        try {
            return Long.toString(call.getAsLong());
        } catch (RuntimeException e) {
            return "throws." + e.getClass().getSimpleName();
        }
    }

    void end() {
        System.out.println(checks + " checks, " + wrong + " wrong");
        if (wrong != 0 || checks == 0) {
            System.exit(1);
        }
    }
}
