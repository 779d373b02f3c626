import java.util.function.ObjIntConsumer;

/** Edges of promises 17 to 25. */
final class SlotEdges extends Edges {
    static void run() {
        slotKind();
        textByte();
        textByteRefuses();
        sizeOf();
        uses();
        isOptional();
        tokenAt();
        tokenAtRefuses();
        numberAt();
        numberAtOfNone();
        numberAtRefuses();
        distinct();
        isRisingFalse();
        isRisingTrue();
        isRisingOrder();
    }

    /** No such slot: with 4 slots, with 40, with none, and with none any more. */
    private static void refusedSlots(String promise, String method, ObjIntConsumer<LineLearner> act) {
        edge(promise, "IndexOutOfBoundsException if there is no such slot", () -> {
            refusedEach(method, INDEX, Edges::rich, beside(4), act);
            refusedEach(method, INDEX, Edges::rich, wrong(30, 39, 40, 41), act);
            refusedEach(method, INDEX, Edges::full, beside(40), act);
            refusedEach(method, INDEX, LineLearner::new, beside(0), act);
            refusedEach(method, INDEX, SlotEdges::cleared, beside(0), act);
            refusedEach(method, INDEX, () -> Texts.withMerged(""), beside(0), act);
        });
    }

    private static LineLearner cleared() {
        LineLearner x = rich();
        x.clear();
        return x;
    }

    private static void slotKind() {
        edge("Promise 17", "the kinds 0 to 3, of the first and of the last slot", () -> {
            LineLearner x = Texts.withMerged("a1 -");
            for (int slot = 0; slot < 4; slot++) {
                same("slotKind(" + slot + ")", x.slotKind(slot), slot);
            }
            same("slotKind(0) of 40", full().slotKind(0), 0);
            same("slotKind(9) of 40", full().slotKind(9), 1);
            same("slotKind(39) of 40", full().slotKind(39), 3);
        });
        edge("Promise 17", "a slot without a text has its kind still", () ->
                same("slotKind(0)", Texts.withMerged("1", "2").slotKind(0), 1));
        refusedSlots("Promise 17", "slotKind", (x, slot) -> x.slotKind(slot));
    }

    private static void textByte() {
        edge("Promise 18", "the first and the last byte of a text, of 1 and of 30 bytes", () -> {
            LineLearner x = Texts.withMerged("~");
            same("textByte(0, 0)", x.textByte(0, 0), 126);
            LineLearner y = Texts.withMerged("A" + "b".repeat(28) + "z");
            same("textByte(0, 0) of 30", y.textByte(0, 0), 'A');
            same("textByte(0, 1) of 30", y.textByte(0, 1), 'b');
            same("textByte(0, 29) of 30", y.textByte(0, 29), 'z');
            same("textByte(0, 0) of a SPACE", Texts.withMerged("  ").textByte(0, 0), 32);
            same("textByte(39, 0)", full().textByte(39, 0), '-');
        });
        edge("Promise 18", "the text is the slot's own, behind other tokens too", () -> {
            LineLearner x = Texts.withMerged("ab-12", "ab-12");
            same("textByte(2, 0)", x.textByte(2, 0), '1');
            same("textByte(2, 1)", x.textByte(2, 1), '2');
        });
        edge("Promise 18", "-1 if it has no text, at every index", () -> {
            LineLearner x = Texts.withMerged("ab", "ac");
            for (int index : new int[] {0, 1, 2, 30, -1, Integer.MAX_VALUE, Integer.MIN_VALUE}) {
                same("textByte(0, " + index + ")", x.textByte(0, index), -1);
            }
        });
    }

    private static void textByteRefuses() {
        edge("Promise 18", "IndexOutOfBoundsException if it has a text, and there is no such index", () -> {
            refusedEach("textByte(1, ..)", INDEX, Edges::rich, beside(1), (x, index) -> x.textByte(1, index));
            refusedEach("textByte(0, ..)", INDEX, () -> Texts.withMerged("abc-1"), beside(3),
                    (x, index) -> x.textByte(0, index));
            refusedEach("textByte(0, ..)", INDEX, () -> Texts.withMerged("a".repeat(30)), beside(30),
                    (x, index) -> x.textByte(0, index));
            refusedEach("textByte(39, ..)", INDEX, Edges::full, beside(1), (x, index) -> x.textByte(39, index));
        });
        refusedSlots("Promise 18", "textByte(.., 0)", (x, slot) -> x.textByte(slot, 0));
        edge("Promise 18", "IndexOutOfBoundsException if there is no such slot, and no such index either", () ->
                refusedEach("textByte(.., -1)", INDEX, Edges::rich, beside(4), (x, slot) -> x.textByte(slot, -1)));
    }

    private static void sizeOf() {
        edge("Promise 19", "1 at least, 30 at most, and each of both where it is asked for", () -> {
            LineLearner x = Texts.withMerged("a", "b".repeat(30));
            same("sizeOf(0, false)", x.sizeOf(0, false), 1);
            same("sizeOf(0, true)", x.sizeOf(0, true), 30);
            same("sizeOf(39, false)", full().sizeOf(39, false), 1);
            same("sizeOf(39, true)", full().sizeOf(39, true), 1);
        });
        edge("Promise 19", "a slot with a text has both sizes too", () -> {
            LineLearner x = Texts.withMerged("abc", "abc");
            same("sizeOf(0, false)", x.sizeOf(0, false), 3);
            same("sizeOf(0, true)", x.sizeOf(0, true), 3);
        });
        refusedSlots("Promise 19", "sizeOf(.., false)", (x, slot) -> x.sizeOf(slot, false));
        edge("Promise 19", "IndexOutOfBoundsException if there is no such slot, for the greatest size too", () ->
                refusedEach("sizeOf(.., true)", INDEX, Edges::rich, beside(4), (x, slot) -> x.sizeOf(slot, true)));
    }

    private static void uses() {
        edge("Promise 20", "1 at first, 12 at most", () -> {
            LineLearner x = new LineLearner();
            for (int line = 0; line < 12; line++) {
                Texts.store(x, "a");
                x.merge(line);
                same("uses(0)", x.uses(0), line + 1);
            }
        });
        edge("Promise 20", "a line that has not used it does not count", () -> {
            LineLearner x = Texts.withMerged("-a", "", "-");
            same("uses(0)", x.uses(0), 2);
            same("uses(1)", x.uses(1), 1);
        });
        edge("Promise 20", "a line that is not merged, or not any more, does not count", () -> {
            LineLearner x = Texts.withLines("a", "a", "a");
            x.merge(0);
            x.merge(1);
            same("uses(0)", x.uses(0), 2);
            x.clear();
            x.merge(2);
            same("uses(0) after clear", x.uses(0), 1);
        });
        refusedSlots("Promise 20", "uses", (x, slot) -> x.uses(slot));
    }

    private static void isOptional() {
        edge("Promise 21", "false for the slots of the only line, true from the first line on that has not used it", () -> {
            LineLearner x = Texts.withLines("a-", "", "a-");
            x.merge(0);
            same("isOptional(1) of one line", x.isOptional(1), false);
            x.merge(1);
            same("isOptional(1) of two lines", x.isOptional(1), true);
            x.merge(2);
            same("isOptional(1) of three lines", x.isOptional(1), true);
        });
        edge("Promise 21", "the twelfth line makes a slot optional", () -> {
            LineLearner x = new LineLearner();
            for (int line = 0; line < 11; line++) {
                Texts.store(x, "a");
                x.merge(line);
            }
            same("isOptional(0) of eleven", x.isOptional(0), false);
            x.store();
            x.merge(11);
            same("isOptional(0) of twelve", x.isOptional(0), true);
        });
        refusedSlots("Promise 21", "isOptional", (x, slot) -> x.isOptional(slot));
    }

    private static void tokenAt() {
        edge("Promise 22", "the first and the last token: 0 and 29", () -> {
            LineLearner x = full();
            same("tokenAt(1, 0)", x.tokenAt(1, 0), 0);
            same("tokenAt(1, 9)", x.tokenAt(1, 9), 9);
            same("tokenAt(0, 10)", x.tokenAt(0, 10), 0);
            same("tokenAt(0, 39)", x.tokenAt(0, 39), 29);
        });
        edge("Promise 22", "-1 if the line has used other slots alone, or none", () -> {
            LineLearner x = Texts.withMerged("a-", "-", "");
            same("tokenAt(1, 0)", x.tokenAt(1, 0), -1);
            same("tokenAt(1, 1)", x.tokenAt(1, 1), 0);
            same("tokenAt(2, 0)", x.tokenAt(2, 0), -1);
        });
        edge("Promise 22", "-1 if the line is not merged, or not any more", () -> {
            LineLearner x = Texts.withLines("a", "a");
            x.merge(0);
            same("tokenAt(1, 0)", x.tokenAt(1, 0), -1);
            x.clear();
            x.merge(1);
            same("tokenAt(0, 0) after clear", x.tokenAt(0, 0), -1);
            same("tokenAt(1, 0) after clear", x.tokenAt(1, 0), 0);
        });
        edge("Promise 22", "-1 for a line whose merge was refused", () -> {
            LineLearner x = full();
            throwsIt("merge(2)", STATE, () -> x.merge(2));
            same("tokenAt(2, 0)", x.tokenAt(2, 0), -1);
        });
    }

    private static void tokenAtRefuses() {
        edge("Promise 22", "IndexOutOfBoundsException if there is no such line", () -> {
            refusedEach("tokenAt(.., 0)", INDEX, Edges::rich, beside(4), (x, line) -> x.tokenAt(line, 0));
            refusedEach("tokenAt(.., 0)", INDEX, Edges::full, beside(4), (x, line) -> x.tokenAt(line, 0));
        });
        refusedSlots("Promise 22", "tokenAt(0, ..)", (x, slot) -> x.tokenAt(0, slot));
        edge("Promise 22", "IndexOutOfBoundsException if there is no such slot, for a line that is not merged too", () ->
                refusedEach("tokenAt(2, ..)", INDEX, Edges::rich, beside(4), (x, slot) -> x.tokenAt(2, slot)));
        edge("Promise 22", "IndexOutOfBoundsException if there is no such line and no such slot", () ->
                refusedEach("tokenAt(.., ..)", INDEX, Edges::rich, beside(4), (x, one) -> x.tokenAt(one, one)));
    }

    private static void number(String digits, int due) {
        same("numberAt of " + digits, Texts.withMerged(digits).numberAt(0, 0), due);
    }

    private static void numberAt() {
        edge("Promise 23", "the least numbers, and digits 0 in front", () -> {
            number("0", 0);
            number("1", 1);
            number("000", 0);
            number("007", 7);
        });
        edge("Promise 23", "nine digits are all told", () -> {
            number("999999999", 999999999);
            number("100000000", 100000000);
            number("000000001", 1);
        });
        edge("Promise 23", "of more than nine digits the last nine", () -> {
            number("1000000000", 0);
            number("9123456789", 123456789);
            number("2147483648", 147483648);
            number("4294967296", 294967296);
            number("0".repeat(29) + "5", 5);
            number("9".repeat(30), 999999999);
            number("9".repeat(21) + "000000001", 1);
        });
    }

    private static void numberAtOfNone() {
        edge("Promise 23", "-1 if there is no token", () -> {
            LineLearner x = Texts.withLines("1-", "-", "", "1-");
            x.merge(0);
            x.merge(1);
            x.merge(2);
            same("of a SKIP", x.numberAt(1, 0), -1);
            same("of the empty line", x.numberAt(2, 0), -1);
            same("of a line that is not merged", x.numberAt(3, 0), -1);
            x.clear();
            x.merge(3);
            same("of a line that is not merged any more", x.numberAt(0, 0), -1);
        });
        edge("Promise 23", "-1 if it is not a NUMBER", () -> {
            LineLearner x = Texts.withMerged("a -1");
            same("of a WORD", x.numberAt(0, 0), -1);
            same("of a SPACE", x.numberAt(0, 1), -1);
            same("of a SIGN", x.numberAt(0, 2), -1);
            same("of a NUMBER", x.numberAt(0, 3), 1);
        });
    }

    private static void numberAtRefuses() {
        edge("Promise 23", "IndexOutOfBoundsException if there is no such line", () -> {
            refusedEach("numberAt(.., 0)", INDEX, Edges::rich, beside(4), (x, line) -> x.numberAt(line, 0));
            refusedEach("numberAt(.., 3)", INDEX, Edges::rich, beside(4), (x, line) -> x.numberAt(line, 3));
        });
        refusedSlots("Promise 23", "numberAt(0, ..)", (x, slot) -> x.numberAt(0, slot));
        edge("Promise 23", "IndexOutOfBoundsException if there is no such slot, for a line that is not merged too", () ->
                refusedEach("numberAt(2, ..)", INDEX, Edges::rich, beside(4), (x, slot) -> x.numberAt(2, slot)));
        edge("Promise 23", "IndexOutOfBoundsException if there is no such line and no such slot", () ->
                refusedEach("numberAt(.., ..)", INDEX, Edges::rich, beside(4), (x, one) -> x.numberAt(one, one)));
    }

    private static void distinct() {
        edge("Promise 24", "1 for one line, and for lines with the same text", () -> {
            same("of one", Texts.withMerged("a").distinct(0), 1);
            same("of three", Texts.withMerged("a", "a", "a").distinct(0), 1);
        });
        edge("Promise 24", "12 at most, each text once", () -> {
            LineLearner x = new LineLearner();
            for (int line = 0; line < 12; line++) {
                Texts.store(x, "a".repeat(line + 1));
                x.merge(line);
                same("distinct(0)", x.distinct(0), line + 1);
            }
            same("of a, b, a, b", Texts.withMerged("a", "b", "a", "b").distinct(0), 2);
        });
        edge("Promise 24", "texts count, not numbers and not letters alone", () -> {
            same("of 7 and 07", Texts.withMerged("7", "07").distinct(0), 2);
            same("of a and A", Texts.withMerged("a", "A").distinct(0), 2);
            same("of ab and ba", Texts.withMerged("ab", "ba").distinct(0), 2);
        });
        edge("Promise 24", "tokens that have used other slots, or of lines that are not merged, do not count", () -> {
            LineLearner x = Texts.withLines("a-b", "c-d", "a-d", "", "e");
            x.merge(0);
            x.merge(2);
            x.merge(3);
            same("distinct(0)", x.distinct(0), 1);
            same("distinct(2)", x.distinct(2), 2);
        });
        refusedSlots("Promise 24", "distinct", (x, slot) -> x.distinct(slot));
    }

    private static void rising(boolean due, String... texts) {
        same("isRising(0) of " + String.join(", ", texts), Texts.withMerged(texts).isRising(0), due);
    }

    private static void isRisingFalse() {
        edge("Promise 25", "false if only one line has used it", () -> {
            rising(false, "1");
            rising(false, "1", "");
            rising(false, "", "1");
            LineLearner x = Texts.withLines("1", "2");
            x.merge(0);
            same("with a line that is not merged", x.isRising(0), false);
        });
        edge("Promise 25", "false if it is not a NUMBER", () -> {
            rising(false, "a", "b");
            rising(false, " ", "  ");
            rising(false, "-", "?");
        });
        edge("Promise 25", "false if a number is the same as the one before, or less", () -> {
            rising(false, "1", "1");
            rising(false, "1", "01");
            rising(false, "2", "1");
            rising(false, "0", "1", "1");
            rising(false, "0", "2", "1");
            rising(false, "1", "0", "2");
        });
    }

    private static void isRisingTrue() {
        edge("Promise 25", "true for two lines, from 0 on, and by 1 each", () -> {
            rising(true, "0", "1");
            rising(true, "0", "1", "2");
            rising(true, "9", "10");
            rising(true, "999999998", "999999999");
        });
        edge("Promise 25", "numbers are told as by numberAt: of more than nine digits the last nine", () -> {
            rising(true, "4", "1000000005");
            rising(false, "4", "1000000004");
            rising(false, "999999999", "1000000000");
            rising(true, "9000000000", "1");
        });
        edge("Promise 25", "twelve lines, and the last of them decides too", () -> {
            LineLearner x = new LineLearner();
            for (int line = 0; line < 11; line++) {
                Texts.store(x, "" + line);
                x.merge(line);
            }
            same("of eleven", x.isRising(0), true);
            LineLearner y = new LineLearner();
            for (int line = 0; line < 12; line++) {
                Texts.store(y, "" + line);
                y.merge(line);
            }
            same("of twelve", y.isRising(0), true);
            Texts.store(x, "10");
            x.merge(11);
            same("of twelve, the last one the same", x.isRising(0), false);
        });
    }

    private static void isRisingOrder() {
        edge("Promise 25", "in the order of their numbers, not in that of the merges", () -> {
            LineLearner x = Texts.withLines("1", "2", "3");
            x.merge(2);
            x.merge(1);
            x.merge(0);
            same("merged backwards, rising", x.isRising(0), true);
            LineLearner y = Texts.withLines("3", "2", "1");
            y.merge(2);
            y.merge(1);
            y.merge(0);
            same("merged backwards, falling", y.isRising(0), false);
        });
        edge("Promise 25", "lines that have not used it are passed over", () -> {
            rising(true, "1", "", "2");
            rising(false, "2", "", "1");
            LineLearner x = Texts.withLines("1", "9", "2");
            x.merge(0);
            x.merge(2);
            same("with a line between that is not merged", x.isRising(0), true);
        });
        refusedSlots("Promise 25", "isRising", (x, slot) -> x.isRising(slot));
    }
}
