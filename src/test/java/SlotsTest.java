/** Promises 16 to 25. */
public final class SlotsTest {
    private static final Check CHECK = new Check("SlotsTest");

    public static void main(String[] args) {
        slotsTell();
        textsTell();
        textsRefuse();
        usesTell();
        tokensTell();
        tokensOfLinesNotMerged();
        numbersTell();
        distinctTells();
        risingTells();
        risingInTheOrderOfLines();
        allIsFull();
        slotsRefuse();
        linesRefuse();
        CHECK.finish();
    }

    private static void slotsTell() {
        LineLearner x = Texts.withLines("ab 12-", "cde 3-", "1");
        CHECK.same("slotCount() at first", x.slotCount(), 0);
        x.merge(0);
        CHECK.same("slotCount() of one line", x.slotCount(), 4);
        x.merge(1);
        int[][] due = {{0, 2, 3}, {2, 1, 1}, {1, 1, 2}, {3, 1, 1}};
        CHECK.same("slotCount()", x.slotCount(), due.length);
        for (int slot = 0; slot < due.length; slot++) {
            CHECK.same("slotKind(" + slot + ")", x.slotKind(slot), due[slot][0]);
            CHECK.same("least sizeOf(" + slot + ")", x.sizeOf(slot, false), due[slot][1]);
            CHECK.same("greatest sizeOf(" + slot + ")", x.sizeOf(slot, true), due[slot][2]);
        }
    }

    private static void textsTell() {
        LineLearner x = Texts.withMerged("ab 12", "ac 12");
        CHECK.same("textByte(0, 0)", x.textByte(0, 0), -1);
        CHECK.same("textByte(0, 99) of no text", x.textByte(0, 99), -1);
        CHECK.same("textByte(0, -1) of no text", x.textByte(0, -1), -1);
        CHECK.same("textByte(1, 0)", x.textByte(1, 0), 32);
        CHECK.same("textByte(2, 0)", x.textByte(2, 0), '1');
        CHECK.same("textByte(2, 1)", x.textByte(2, 1), '2');
    }

    private static void textsRefuse() {
        LineLearner x = Texts.withMerged("ab 12", "ac 12");
        int[] wrong = {-1, 2, 30, Integer.MAX_VALUE, Integer.MIN_VALUE};
        for (int index : wrong) {
            CHECK.refuses("textByte(2, " + index + ")", x, IndexOutOfBoundsException.class,
                    () -> x.textByte(2, index));
        }
        CHECK.refuses("textByte(3, 0)", x, IndexOutOfBoundsException.class, () -> x.textByte(3, 0));
        CHECK.refuses("textByte(-1, 0)", x, IndexOutOfBoundsException.class, () -> x.textByte(-1, 0));
    }

    private static void usesTell() {
        LineLearner x = Texts.withLines("a-", "a", "a-1");
        x.merge(0);
        CHECK.same("uses(1)", x.uses(1), 1);
        CHECK.same("isOptional(1)", x.isOptional(1), false);
        x.merge(1);
        CHECK.same("uses(0)", x.uses(0), 2);
        CHECK.same("isOptional(0)", x.isOptional(0), false);
        CHECK.same("uses(1) after a skip", x.uses(1), 1);
        CHECK.same("isOptional(1) after a skip", x.isOptional(1), true);
        x.merge(2);
        CHECK.same("uses(1) after a pair", x.uses(1), 2);
        CHECK.same("isOptional(1) after a pair", x.isOptional(1), true);
        CHECK.same("uses(2) of a fresh one", x.uses(2), 1);
        CHECK.same("isOptional(2) of a fresh one", x.isOptional(2), true);
    }

    private static void tokensTell() {
        LineLearner x = Texts.withMerged("a-b", "-b", "1-b");
        CHECK.same("format", Texts.formatOf(x), "1:1:1-1:1? 0:a:1-1:1? 3:-:1-1:3 0:b:1-1:3");
        int[][] due = {{-1, 0, 1, 2}, {-1, -1, 0, 1}, {0, -1, 1, 2}};
        for (int line = 0; line < 3; line++) {
            for (int slot = 0; slot < 4; slot++) {
                CHECK.same("tokenAt(" + line + ", " + slot + ")", x.tokenAt(line, slot), due[line][slot]);
            }
        }
    }

    private static void tokensOfLinesNotMerged() {
        LineLearner x = Texts.withLines("7", "7", "");
        x.merge(0);
        x.merge(2);
        CHECK.same("tokenAt(1, 0), not merged", x.tokenAt(1, 0), -1);
        CHECK.same("numberAt(1, 0), not merged", x.numberAt(1, 0), -1);
        CHECK.same("tokenAt(2, 0), empty", x.tokenAt(2, 0), -1);
        CHECK.same("numberAt(2, 0), empty", x.numberAt(2, 0), -1);
        x.clear();
        x.merge(1);
        CHECK.same("tokenAt(0, 0), merged before clear", x.tokenAt(0, 0), -1);
        CHECK.same("tokenAt(1, 0)", x.tokenAt(1, 0), 0);
    }

    private static void numbersTell() {
        LineLearner x = Texts.withMerged("a12", "b007", "c0", "d999999999", "e1234567890123", "f4000000000",
                "g99999999999999999999999999999", "h4294967296");
        int[] due = {12, 7, 0, 999999999, 567890123, 0, 999999999, 294967296};
        for (int line = 0; line < due.length; line++) {
            CHECK.same("numberAt(" + line + ", 1)", x.numberAt(line, 1), due[line]);
            CHECK.same("numberAt(" + line + ", 0)", x.numberAt(line, 0), -1);
        }
        LineLearner y = Texts.withMerged("1 -", "1");
        CHECK.same("numberAt of a SPACE", y.numberAt(0, 1), -1);
        CHECK.same("numberAt of a SIGN", y.numberAt(0, 2), -1);
        CHECK.same("numberAt of no token", y.numberAt(1, 1), -1);
    }

    private static void distinctTells() {
        LineLearner x = Texts.withLines("a-1", "b-1", "a-", "ab-2", "A-", "-");
        x.merge(0);
        CHECK.same("distinct(0) of one line", x.distinct(0), 1);
        for (int line = 1; line < 6; line++) {
            x.merge(line);
        }
        CHECK.same("distinct(0)", x.distinct(0), 4);
        CHECK.same("distinct(1)", x.distinct(1), 1);
        CHECK.same("distinct(2)", x.distinct(2), 2);
        LineLearner y = Texts.withMerged("7", "07", "007");
        CHECK.same("distinct of texts, not of numbers", y.distinct(0), 3);
    }

    private static void rising(String what, boolean due, String... texts) {
        CHECK.same("isRising of " + what, Texts.withMerged(texts).isRising(0), due);
    }

    private static void risingTells() {
        rising("1", false, "1");
        rising("1 2", true, "1", "2");
        rising("0 1", true, "0", "1");
        rising("2 1", false, "2", "1");
        rising("1 1", false, "1", "1");
        rising("1 01", false, "1", "01");
        rising("1 5 4", false, "1", "5", "4");
        rising("2 10 11", true, "2", "10", "11");
        rising("1 none 2", true, "1", "", "2");
        rising("2 none 1", false, "2", "", "1");
        rising("1 none", false, "1", "");
        rising("a b", false, "a", "b");
        rising("4 and 10 digits that end with 5", true, "4", "1000000005");
        rising("9 and 10 digits that end with 5", false, "9", "1000000005");
    }

    private static void risingInTheOrderOfLines() {
        LineLearner x = Texts.withLines("1", "2", "3", "0");
        x.merge(2);
        x.merge(0);
        CHECK.same("isRising of lines 2 and 0", x.isRising(0), true);
        x.merge(1);
        CHECK.same("isRising of lines 2, 0 and 1", x.isRising(0), true);
        x.merge(3);
        CHECK.same("isRising of all", x.isRising(0), false);
    }

    /** Twelve lines of thirty tokens, one byte each: the last row of everything is in use. */
    private static void allIsFull() {
        LineLearner x = new LineLearner();
        for (int line = 0; line < 12; line++) {
            Texts.feed(x, "a1-a1-a1-a1-a1-a1-a1-a1-a1-a1");
            Texts.store(x, "" + (line == 11 ? '?' : '-'));
            CHECK.same("merge(" + line + ")", x.merge(line), line == 0 ? 120 : line == 11 ? 2 : 0);
        }
        CHECK.same("slotCount()", x.slotCount(), 30);
        CHECK.same("tokenCount(11)", x.tokenCount(11), 30);
        CHECK.same("tokenStart(11, 29)", x.tokenStart(11, 29), 29);
        CHECK.same("sameAtFront(0, 11)", x.sameAtFront(0, 11), 29);
        CHECK.same("sameAtFront(0, 10)", x.sameAtFront(0, 10), 30);
        CHECK.same("tokenAt(11, 29)", x.tokenAt(11, 29), 29);
        CHECK.same("uses(29)", x.uses(29), 12);
        CHECK.same("distinct(28)", x.distinct(28), 1);
        CHECK.same("distinct(29)", x.distinct(29), 2);
        CHECK.same("isRising(28)", x.isRising(28), false);
        CHECK.same("fits(11)", x.fits(11), true);
        CHECK.same("strangest()", x.strangest(), 0);
        CHECK.same("bits()", x.bits(), 30 * 4 + 29 * 8 + 12 * 8);
        CHECK.same("saving()", x.saving(), 1.0 - 448.0 / (12 * 248));
        CHECK.same("group(1)", x.group(1), 2);
        CHECK.same("groupOf(11)", x.groupOf(11), 1);
        LineLearner y = new LineLearner();
        for (int line = 0; line < 12; line++) {
            Texts.store(y, "" + line);
            y.merge(line);
        }
        CHECK.same("isRising of twelve", y.isRising(0), true);
    }

    private static void slotsRefuse() {
        LineLearner x = Texts.withMerged("a-1", "b-1");
        int[] wrong = {-1, 3, 40, 41, Integer.MAX_VALUE, Integer.MIN_VALUE};
        for (int slot : wrong) {
            Class<? extends RuntimeException> due = IndexOutOfBoundsException.class;
            CHECK.refuses("slotKind(" + slot + ")", x, due, () -> x.slotKind(slot));
            CHECK.refuses("textByte(" + slot + ", 0)", x, due, () -> x.textByte(slot, 0));
            CHECK.refuses("sizeOf(" + slot + ", true)", x, due, () -> x.sizeOf(slot, true));
            CHECK.refuses("sizeOf(" + slot + ", false)", x, due, () -> x.sizeOf(slot, false));
            CHECK.refuses("uses(" + slot + ")", x, due, () -> x.uses(slot));
            CHECK.refuses("isOptional(" + slot + ")", x, due, () -> x.isOptional(slot));
            CHECK.refuses("tokenAt(0, " + slot + ")", x, due, () -> x.tokenAt(0, slot));
            CHECK.refuses("numberAt(0, " + slot + ")", x, due, () -> x.numberAt(0, slot));
            CHECK.refuses("distinct(" + slot + ")", x, due, () -> x.distinct(slot));
            CHECK.refuses("isRising(" + slot + ")", x, due, () -> x.isRising(slot));
        }
        x.clear();
        CHECK.refuses("slotKind(0) after clear", x, IndexOutOfBoundsException.class, () -> x.slotKind(0));
    }

    private static void linesRefuse() {
        LineLearner x = Texts.withMerged("a-1", "b-1");
        int[] wrong = {-1, 2, 12, Integer.MAX_VALUE, Integer.MIN_VALUE};
        for (int line : wrong) {
            CHECK.refuses("tokenAt(" + line + ", 0)", x, IndexOutOfBoundsException.class, () -> x.tokenAt(line, 0));
            CHECK.refuses("numberAt(" + line + ", 0)", x, IndexOutOfBoundsException.class,
                    () -> x.numberAt(line, 0));
        }
    }
}
