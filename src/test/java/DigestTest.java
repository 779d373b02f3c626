/** Promise 31. */
public final class DigestTest {
    private static final Check CHECK = new Check("DigestTest");

    /** The checksum of these numbers. */
    static long digest(int... numbers) {
        long d = 149;
        for (int x : numbers) {
            d = d * 31 + x;
        }
        return d;
    }

    public static void main(String[] args) {
        LineLearner x = new LineLearner();
        CHECK.same("a new object", x.digest(), digest(0, 0, 2, 3, 4, 0, 0));
        CHECK.same("the same number, folded", x.digest(), ((((((149L * 31) * 31 * 31 + 2) * 31 + 3) * 31 + 4) * 31) * 31));
        x.group(0);
        CHECK.same("groups of no lines", x.digest(), digest(0, 0, 2, 3, 4, 0, 0));
        Texts.feed(x, "xyz");
        CHECK.same("a buffer", x.digest(), digest(3, 0, 2, 3, 4, 0, 0));
        x.store();
        x.store();
        Texts.store(x, "x1");
        x.setCosts(5, 6, 7);
        CHECK.same("lines", x.digest(), digest(0, 3, 3, 120, 121, 122, 0, 2, 120, 49, 5, 6, 7, 0, 0));
        x.merge(0);
        CHECK.same("a format", x.digest(),
                digest(0, 3, 3, 120, 121, 122, 0, 2, 120, 49, 5, 6, 7, 1, 0, 3, 3, 1, 3, 1));
        x.merge(2);
        CHECK.same("a format of two lines", x.digest(), digest(0, 3, 3, 120, 121, 122, 0, 2, 120, 49, 5, 6, 7,
                2, 0, 1, 3, 2, -1, 1, 1, 1, 1, 1, 2));
        x.group(0);
        CHECK.same("groups", x.digest(), digest(0, 3, 3, 120, 121, 122, 0, 2, 120, 49, 5, 6, 7,
                2, 0, 1, 3, 2, -1, 1, 1, 1, 1, 1, 2, 0, 1, 2));
        x.clear();
        CHECK.same("groups without a format", x.digest(),
                digest(0, 3, 3, 120, 121, 122, 0, 2, 120, 49, 5, 6, 7, 0, 0, 0, 1, 2));
        x.setCosts(5, 6, 7);
        CHECK.same("no groups any more", x.digest(),
                digest(0, 3, 3, 120, 121, 122, 0, 2, 120, 49, 5, 6, 7, 0, 0));
        x.merge(1);
        CHECK.same("the empty line is merged", x.digest(),
                digest(0, 3, 3, 120, 121, 122, 0, 2, 120, 49, 5, 6, 7, 0, 1));
        CHECK.same("digest() again", x.digest(), x.digest());
        CHECK.finish();
    }
}
