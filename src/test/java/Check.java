/** Counts what holds and what does not, for one test program. */
final class Check {
    private final String name;
    private int passed;
    private int failed;

    Check(String name) {
        this.name = name;
    }

    void same(String what, long got, long want) {
        count(got == want, what + " answered " + got + ", due is " + want);
    }

    void same(String what, boolean got, boolean want) {
        count(got == want, what + " answered " + got + ", due is " + want);
    }

    void same(String what, double got, double want) {
        count(Double.compare(got, want) == 0, what + " answered " + got + ", due is " + want);
    }

    void same(String what, String got, String want) {
        count(got.equals(want), what + " answered " + got + ", due is " + want);
    }

    /** The very exception is due, and nothing that the object answers may be another than before. */
    void refuses(String what, LineLearner x, Class<? extends RuntimeException> due, Runnable call) {
        String before = Texts.stateOf(x);
        String got = "nothing";
        try {
            call.run();
        } catch (RuntimeException e) {
            got = e.getClass().getName();
        }
        same(what + " throws", got, due.getName());
        same(what + " changes nothing", Texts.stateOf(x), before);
    }

    private void count(boolean holds, String otherwise) {
        if (holds) {
            passed++;
        } else {
            failed++;
            System.out.println(name + ": " + otherwise);
        }
    }

    void finish() {
        System.out.println(name + ": " + passed + " passed, " + failed + " failed");
        if (failed != 0 || passed == 0) {
            System.exit(1);
        }
    }
}
