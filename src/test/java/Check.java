/** Counts the answers that are not the due ones, and tells them. */
final class Check {
    private static final int SECONDS = 600;

    private int wrong = 0;
    private int asked = 0;

    Check() {
        // a call that never ends is wrong too, and must not hold up .ci/run for ever
        Thread watch = new Thread(Check::giveUp);
        watch.setDaemon(true);
        watch.start();
    }

    private static void giveUp() {
        try {
            Thread.sleep(SECONDS * 1000L);
        } catch (InterruptedException e) {
            Thread.currentThread().interrupt();
        }
        System.out.println("not at an end behind " + SECONDS + " seconds");
        Runtime.getRuntime().halt(1);
    }

    void due(String call, long want, long got) {
        asked++;
        if (want != got) {
            wrong++;
            System.out.println(call + " answered " + got + ", due is " + want);
        }
    }

    void holds(String what, boolean so) {
        due(what, 1, so ? 1 : 0);
    }

    void end() {
        System.out.println(asked + " looked at, " + wrong + " wrong");
        if (wrong != 0 || asked == 0) {
            System.exit(1);
        }
    }
}
