/** Promises 14 and 15. */
public final class FitsTest {
    private static final Check CHECK = new Check("FitsTest");

    public static void main(String[] args) {
        emptyFormat();
        textsMustBeTheSame();
        sizesMustBeBetween();
        kindsMustBeTheSame();
        onlyOptionalSlotsAreSkipped();
        everyWayIsTried();
        costsDoNotMatter();
        fitsRefuses();
        strangestIsFound();
        CHECK.finish();
    }

    private static void fits(LineLearner x, String text, boolean due) {
        CHECK.same("fits of '" + text + "'", x.fits(Texts.store(x, text)), due);
    }

    private static void emptyFormat() {
        LineLearner x = Texts.withLines("", "a");
        CHECK.same("the empty line", x.fits(0), true);
        CHECK.same("another line", x.fits(1), false);
        x.merge(1);
        CHECK.same("a merged line", x.fits(1), true);
        CHECK.same("the empty line, not all are optional", x.fits(0), false);
        x.merge(0);
        CHECK.same("the empty line, all are optional", x.fits(0), true);
        CHECK.same("the other line", x.fits(1), true);
    }

    private static void textsMustBeTheSame() {
        LineLearner x = Texts.withMerged("ab-12");
        fits(x, "ab-12", true);
        fits(x, "ac-12", false);
        fits(x, "ab-13", false);
        fits(x, "ab-", false);
        fits(x, "ab-12-", false);
        fits(x, "-12", false);
        fits(x, "", false);
    }

    private static void sizesMustBeBetween() {
        LineLearner x = Texts.withMerged("ab1", "abcd1");
        fits(x, "xy1", true);
        fits(x, "xyz1", true);
        fits(x, "wxyz1", true);
        fits(x, "x1", false);
        fits(x, "vwxyz1", false);
        fits(x, "xyz2", false);
    }

    private static void kindsMustBeTheSame() {
        LineLearner x = Texts.withMerged("a", "b");
        fits(x, "c", true);
        fits(x, "1", false);
        fits(x, "-", false);
        fits(x, " ", false);
    }

    private static void onlyOptionalSlotsAreSkipped() {
        LineLearner x = Texts.withMerged("a-1", "a1");
        fits(x, "a-1", true);
        fits(x, "a1", true);
        fits(x, "a-", false);
        fits(x, "-1", false);
        fits(x, "a?1", false);
        fits(x, "a--1", false);
    }

    private static void everyWayIsTried() {
        LineLearner x = Texts.withMerged("--", "-");
        fits(x, "-", true);
        fits(x, "--", true);
        fits(x, "---", false);
        LineLearner y = Texts.withMerged("-a-b-c", "-c", "");
        fits(y, "-a-b-c", true);
        fits(y, "-a-c", true);
        fits(y, "--c", true);
        fits(y, "---c", true);
        fits(y, "----c", false);
        fits(y, "-b-a", false);
        fits(y, "c-", false);
        LineLearner z = Texts.withMerged("a-", "-");
        fits(z, "-", true);
        fits(z, "a-", true);
        fits(z, "a", false);
        fits(z, "--", false);
        fits(z, "-a", false);
        fits(z, "", false);
        LineLearner w = Texts.withMerged("-a", "-");
        fits(w, "-", true);
        fits(w, "a", false);
        fits(w, "-a", true);
    }

    private static void costsDoNotMatter() {
        LineLearner x = Texts.withMerged("a-1", "b-1");
        x.setCosts(0, 0, 0);
        fits(x, "c-1", true);
        fits(x, "c-2", false);
        fits(x, "c-", false);
        fits(x, "c-1?", false);
    }

    private static void fitsRefuses() {
        LineLearner x = Texts.withMerged("a", "");
        int[] wrong = {-1, 2, 12, Integer.MAX_VALUE, Integer.MIN_VALUE};
        for (int line : wrong) {
            CHECK.refuses("fits(" + line + ")", x, IndexOutOfBoundsException.class, () -> x.fits(line));
        }
    }

    private static void strangestIsFound() {
        LineLearner x = new LineLearner();
        CHECK.same("strangest() of none", x.strangest(), -1);
        x.store();
        CHECK.same("strangest() of one at no cost", x.strangest(), 0);
        Texts.store(x, "a-1");
        Texts.store(x, "b-2");
        Texts.store(x, "b");
        CHECK.same("the first of two", x.strangest(), 1);
        x.merge(1);
        CHECK.same("the empty line is farthest", x.strangest(), 0);
        x.merge(0);
        CHECK.same("now the changed one", x.strangest(), 2);
        x.setCosts(0, 3, 4);
        CHECK.same("now the short one", x.strangest(), 0);
    }
}
