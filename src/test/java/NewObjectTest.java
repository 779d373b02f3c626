/** Promise 1. */
public final class NewObjectTest {
    public static void main(String[] args) {
        Check check = new Check("NewObjectTest");
        LineLearner x = new LineLearner();
        check.same("lineCount()", x.lineCount(), 0);
        check.same("feed(0)", x.feed(0L), 0);
        check.same("slotCount()", x.slotCount(), 0);
        check.same("clear()", x.clear(), 0);
        check.same("strangest()", x.strangest(), -1);
        check.same("bits()", x.bits(), 0);
        check.same("saving()", x.saving(), 0.0);
        check.same("digest()", x.digest(), DigestTest.digest(0, 0, 2, 3, 4, 0, 0));
        check.refuses("groupOf(0)", x, IllegalStateException.class, () -> x.groupOf(0));
        check.refuses("groupSlots(0)", x, IllegalStateException.class, () -> x.groupSlots(0));
        check.refuses("isMerged(0)", x, IndexOutOfBoundsException.class, () -> x.isMerged(0));
        check.same("setCosts of the first costs", x.setCosts(2, 3, 4), false);
        twoObjectsAreApart(check);
        check.finish();
    }

    private static void twoObjectsAreApart(Check check) {
        LineLearner x = new LineLearner();
        LineLearner y = new LineLearner();
        x.setCosts(1, 1, 1);
        Texts.store(x, "ab");
        x.merge(0);
        x.group(0);
        Texts.feed(x, "c");
        check.same("digest() of the other one", y.digest(), new LineLearner().digest());
        check.same("state of the other one", Texts.wholeOf(y), Texts.wholeOf(new LineLearner()));
    }
}
