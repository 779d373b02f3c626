/** Counts what holds and what does not, for one test program. */
final class Check {
    private final String name;
    private int passed;
    private int failed;

    Check(String name) {
        this.name = name;
    }

    int counted() {
        return passed + failed;
    }

    void same(String what, long got, long want) {
        count(got == want, what + " answered " + got + ", due is " + want);
    }

    void same(String what, boolean got, boolean want) {
        count(got == want, what + " answered " + got + ", due is " + want);
    }

    void same(String what, double got, double want) {
        count(Double.compare(got, want) == 0, what + " answered " + got + ", due is " + want);
    }

    void same(String what, String got, String want) {
        count(got.equals(want), what + " answered " + got + ", due is " + want);
    }

    /** The very exception is due, and the same checksum as before; the tests of edges look at all the rest too. */
    void refuses(String what, LineLearner x, Class<? extends RuntimeException> due, Runnable call) {
        long before = x.digest();
        same(what + " throws", Texts.thrownBy(call), due.getName());
        same(what + " changes nothing", x.digest(), before);
    }

    private void count(boolean holds, String otherwise) {
        if (holds) {
            passed++;
        } else {
            failed++;
            System.out.println(name + ": " + otherwise);
        }
    }

    void finish() {
        System.out.println(name + ": " + passed + " passed, " + failed + " failed");
        if (failed != 0 || passed == 0) {
            System.exit(1);
        }
    }
}
