/** Counts what holds and prints what does not; a test's main ends with end(). */
final class Check {
    private static int passed = 0;
    private static int failed = 0;

    private Check() {
    }

    static void same(String what, long got, long want) {
        tell(got == want, what, String.valueOf(got), String.valueOf(want));
    }

    static void same(String what, String got, String want) {
        tell(got.equals(want), what, got, want);
    }

    static void sameDouble(String what, double got, double want) {
        tell(Double.compare(got, want) == 0, what, String.valueOf(got), String.valueOf(want));
    }

    static void holds(String what, boolean holds) {
        tell(holds, what, "false", "true");
    }

    /** The class itself counts, not one below it: the machine's own exceptions are such. */
    static void fails(String what, Class<? extends Exception> due, Runnable call) {
        String got = "nothing";
        try {
            call.run();
        } catch (RuntimeException e) {
            got = e.getClass().getName();
        }
        tell(got.equals(due.getName()), what + " throws", got, due.getName());
    }

    static void end() {
        System.out.println("     " + passed + " checks hold, " + failed + " do not");
        System.exit(failed == 0 && passed > 0 ? 0 : 1);
    }

    private static void tell(boolean holds, String what, String got, String want) {
        if (holds) {
            passed++;
        } else {
            failed++;
            System.out.println(what + " answered " + got + ", due is " + want);
        }
    }
}
