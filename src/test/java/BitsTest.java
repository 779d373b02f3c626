/** Promises 26 and 27. */
public final class BitsTest {
    private static final Check CHECK = new Check("BitsTest");

    public static void main(String[] args) {
        constantSlots();
        varyingSlots();
        optionalSlots();
        linesNotMerged();
        savings();
        CHECK.finish();
    }

    private static void constantSlots() {
        LineLearner x = Texts.withMerged("ab 12-");
        CHECK.same("bits of one line", x.bits(), 4 * 4 + 8 * 6);
        CHECK.same("bits of the same two", Texts.withMerged("ab 12-", "ab 12-").bits(), 4 * 4 + 8 * 6);
        CHECK.same("bits of the empty line", Texts.withMerged("").bits(), 0);
    }

    private static void varyingSlots() {
        CHECK.same("bits of a WORD", Texts.withMerged("a", "bcd").bits(), 4 + 2 + 5 * 4);
        CHECK.same("bits of a NUMBER", Texts.withMerged("1", "234").bits(), 4 + 2 + 4 * 4);
        CHECK.same("bits of a SPACE", Texts.withMerged(" ", "   ").bits(), 4 + 2 + 4);
        CHECK.same("bits of a SIGN", Texts.withMerged("-", "?").bits(), 4 + 2 + 7 * 2);
        CHECK.same("bits of three lines", Texts.withMerged("a", "b", "a").bits(), 4 + 3 * 6);
    }

    private static void optionalSlots() {
        CHECK.same("bits of an optional slot", Texts.withMerged("a-", "a").bits(), 2 * 4 + 2 * 8 + 2);
        CHECK.same("bits of two optional slots", Texts.withMerged("a-", "", "a").bits(), 2 * 4 + 2 * 8 + 2 * 3);
        LineLearner x = Texts.withMerged("a1", "b1", "1");
        CHECK.same("bits of an optional slot that varies", x.bits(), 2 * 4 + 8 + 3 + 2 * 6);
    }

    private static void linesNotMerged() {
        LineLearner x = Texts.withLines("a", "b", "cc");
        CHECK.same("bits of none", x.bits(), 0);
        CHECK.same("saving of none", x.saving(), 0.0);
        x.merge(0);
        CHECK.same("bits of the first", x.bits(), 4 + 8);
        x.merge(2);
        CHECK.same("bits of two of three", x.bits(), 4 + 2 + 5 * 3);
        CHECK.same("saving of two of three", x.saving(), 1.0 - 21.0 / 40.0);
        x.clear();
        CHECK.same("bits after clear", x.bits(), 0);
        CHECK.same("saving after clear", x.saving(), 0.0);
        x.merge(1);
        CHECK.same("bits after clear and merge", x.bits(), 4 + 8);
    }

    private static void savings() {
        CHECK.same("saving of the empty line", Texts.withMerged("").saving(), 1.0);
        CHECK.same("saving of one line", Texts.withMerged("a").saving(), 1.0 - 12.0 / 16.0);
        CHECK.same("saving of the same two", Texts.withMerged("abc", "abc").saving(), 1.0 - 28.0 / 64.0);
        CHECK.same("saving below 0", Texts.withMerged("-?-").saving(), 1.0 - 36.0 / 32.0);
        CHECK.same("saving with a quotient", Texts.withMerged("ab", "c").saving(), 1.0 - 21.0 / 40.0);
        CHECK.same("saving with the empty line", Texts.withMerged("a", "").saving(), 1.0 - 14.0 / 24.0);
    }
}
