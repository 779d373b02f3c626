/** Promises 2 to 8. */
public final class LinesTest {
    private static final Check CHECK = new Check("LinesTest");
    private static final String THIRTY = "abcdefghijklmnopqrstuvwxyz1234";

    public static void main(String[] args) {
        feedAppends();
        feedRefuses();
        storeMakesLines();
        storeRefuses();
        tokensAreCut();
        tokensOfEveryByte();
        tokensRefuse();
        sameAtFrontCounts();
        sameAtFrontRefuses();
        CHECK.finish();
    }

    private static void feedAppends() {
        LineLearner x = new LineLearner();
        CHECK.same("feed(0)", x.feed(0L), 0);
        CHECK.same("feed of 1", x.feed(97L), 1);
        CHECK.same("feed of 8", x.feed(Texts.packed("bcdefghi")), 9);
        CHECK.same("feed with a 0 between", x.feed(0x6A00006B00000000L), 11);
        CHECK.same("feed(0) later", x.feed(0L), 11);
        CHECK.same("feed of 32 and 126", x.feed(0x207EL), 13);
        x.store();
        CHECK.same("digest()", x.digest(), DigestTest.digest(0, 1, 13,
                97, 98, 99, 100, 101, 102, 103, 104, 105, 106, 107, 32, 126, 2, 3, 4, 0, 0));
        CHECK.same("feed after store", x.feed(97L), 1);
    }

    private static void feedRefuses() {
        LineLearner x = Texts.withLines("a");
        Texts.feed(x, "xy");
        long[] wrong = {31L, 127L, 1L, 128L, 255L, -1L, Long.MIN_VALUE, 0x611F61L, 0x6161616161616101L,
            0x1F61616161616161L, 0x7F00000000000000L, 0xFF00000000000061L, 10L};
        for (long bytes : wrong) {
            CHECK.refuses("feed(" + bytes + ")", x, IllegalArgumentException.class, () -> x.feed(bytes));
        }
        Texts.feed(x, THIRTY.substring(0, 27));
        CHECK.refuses("feed of 2 to 29", x, IllegalStateException.class, () -> x.feed(0x6161L));
        CHECK.refuses("feed of 8 to 29", x, IllegalStateException.class, () -> x.feed(Texts.packed("abcdefgh")));
        CHECK.same("feed of the 30th", x.feed(0x6100L), 30);
        CHECK.same("feed(0) to 30", x.feed(0L), 30);
        CHECK.refuses("feed of the 31st", x, IllegalStateException.class, () -> x.feed(97L));
        CHECK.refuses("feed of a wrong 31st", x, IllegalArgumentException.class, () -> x.feed(127L));
        x.store();
        Texts.feed(x, THIRTY.substring(0, 22));
        CHECK.same("feed of 8 to 22", x.feed(Texts.packed("abcdefgh")), 30);
        CHECK.refuses("feed of a wrong and a right one", x, IllegalArgumentException.class, () -> x.feed(0x611FL));
    }

    private static void storeMakesLines() {
        LineLearner x = new LineLearner();
        CHECK.same("store of the empty line", x.store(), 0);
        CHECK.same("tokens of the empty line", x.tokenCount(0), 0);
        CHECK.same("store of 30 bytes", Texts.store(x, THIRTY), 1);
        CHECK.same("lineCount()", x.lineCount(), 2);
        CHECK.same("feed(0) after store", x.feed(0L), 0);
        CHECK.same("tokens of 30 bytes", x.tokenCount(1), 2);
        CHECK.same("merged", x.isMerged(1), false);
    }

    private static void storeRefuses() {
        LineLearner x = new LineLearner();
        for (int line = 0; line < 12; line++) {
            CHECK.same("store()", Texts.store(x, "l" + line), line);
            CHECK.same("lineCount()", x.lineCount(), line + 1);
        }
        Texts.feed(x, "more");
        x.group(5);
        CHECK.refuses("store() of the 13th", x, IllegalStateException.class, () -> x.store());
        CHECK.same("buffer kept", x.feed(0L), 4);
        CHECK.same("grouping kept", x.groupOf(0), 0);
        CHECK.same("clear() leaves the lines", x.clear(), 0);
        CHECK.same("lineCount() at last", x.lineCount(), 12);
    }

    private static void tokensAreCut() {
        LineLearner x = Texts.withLines("ab  12!!Cd3", " x ", "a");
        int[][] due = {{0, 0}, {2, 2}, {1, 4}, {3, 6}, {3, 7}, {0, 8}, {1, 10}};
        CHECK.same("tokenCount(0)", x.tokenCount(0), due.length);
        for (int t = 0; t < due.length; t++) {
            CHECK.same("tokenKind(0, " + t + ")", x.tokenKind(0, t), due[t][0]);
            CHECK.same("tokenStart(0, " + t + ")", x.tokenStart(0, t), due[t][1]);
        }
        CHECK.same("tokenCount(1)", x.tokenCount(1), 3);
        CHECK.same("tokenKind(1, 0)", x.tokenKind(1, 0), 2);
        CHECK.same("tokenStart(1, 0)", x.tokenStart(1, 0), 0);
        CHECK.same("tokenStart(1, 2)", x.tokenStart(1, 2), 2);
        CHECK.same("tokenCount(2)", x.tokenCount(2), 1);
        LineLearner y = Texts.withLines("", "!\"#$%&'()*+,-./:;<=>?@[\\]^_`{|");
        CHECK.same("tokenCount of 30 signs", y.tokenCount(1), 30);
        CHECK.same("tokenStart of the last sign", y.tokenStart(1, 29), 29);
        CHECK.same("tokenCount of 30 letters", Texts.withLines("aaaaaaaaaaaaaaaaaaaaaaaaaaaaaZ").tokenCount(0), 1);
    }

    private static void tokensOfEveryByte() {
        for (int one = 32; one <= 126; one++) {
            LineLearner x = Texts.withLines("" + (char) one + (char) one);
            int kind = Character.isLetter(one) ? 0 : Character.isDigit(one) ? 1 : one == 32 ? 2 : 3;
            CHECK.same("tokenKind of " + one, x.tokenKind(0, 0), kind);
            CHECK.same("tokenCount of two " + one, x.tokenCount(0), kind == 3 ? 2 : 1);
        }
    }

    private static void tokensRefuse() {
        LineLearner x = Texts.withLines("a 1", "");
        int[] wrongLines = {-1, 2, 12, 13, Integer.MAX_VALUE, Integer.MIN_VALUE};
        for (int line : wrongLines) {
            CHECK.refuses("tokenCount(" + line + ")", x, IndexOutOfBoundsException.class, () -> x.tokenCount(line));
            CHECK.refuses("tokenKind(" + line + ", 0)", x, IndexOutOfBoundsException.class, () -> x.tokenKind(line, 0));
            CHECK.refuses("tokenStart(" + line + ", 0)", x, IndexOutOfBoundsException.class,
                    () -> x.tokenStart(line, 0));
        }
        int[] wrongTokens = {-1, 3, 30, Integer.MAX_VALUE, Integer.MIN_VALUE};
        for (int token : wrongTokens) {
            CHECK.refuses("tokenKind(0, " + token + ")", x, IndexOutOfBoundsException.class,
                    () -> x.tokenKind(0, token));
            CHECK.refuses("tokenStart(0, " + token + ")", x, IndexOutOfBoundsException.class,
                    () -> x.tokenStart(0, token));
        }
        CHECK.refuses("tokenKind(1, 0)", x, IndexOutOfBoundsException.class, () -> x.tokenKind(1, 0));
        CHECK.refuses("tokenStart(1, 0)", x, IndexOutOfBoundsException.class, () -> x.tokenStart(1, 0));
    }

    private static void sameAtFrontCounts() {
        LineLearner x = Texts.withLines("a-1 x", "a-1 y", "b-1 x", "a-1 x", "", "a-1", "a-12 x", "aa-1", "A-1 x");
        CHECK.same("sameAtFront(0, 1)", x.sameAtFront(0, 1), 4);
        CHECK.same("sameAtFront(1, 0)", x.sameAtFront(1, 0), 4);
        CHECK.same("sameAtFront(0, 2)", x.sameAtFront(0, 2), 0);
        CHECK.same("sameAtFront(0, 3)", x.sameAtFront(0, 3), 5);
        CHECK.same("sameAtFront(0, 0)", x.sameAtFront(0, 0), 5);
        CHECK.same("sameAtFront(0, 4)", x.sameAtFront(0, 4), 0);
        CHECK.same("sameAtFront(4, 4)", x.sameAtFront(4, 4), 0);
        CHECK.same("sameAtFront(0, 5)", x.sameAtFront(0, 5), 3);
        CHECK.same("sameAtFront(5, 0)", x.sameAtFront(5, 0), 3);
        CHECK.same("sameAtFront(0, 6)", x.sameAtFront(0, 6), 2);
        CHECK.same("sameAtFront(0, 7)", x.sameAtFront(0, 7), 0);
        CHECK.same("sameAtFront(0, 8)", x.sameAtFront(0, 8), 0);
        LineLearner y = Texts.withLines("  a", " a", "aa", "a a");
        CHECK.same("spaces of two sizes", y.sameAtFront(0, 1), 0);
        CHECK.same("words of two sizes", y.sameAtFront(2, 3), 0);
    }

    private static void sameAtFrontRefuses() {
        LineLearner x = Texts.withLines("a", "a");
        int[] wrongLines = {-1, 2, 12, Integer.MAX_VALUE, Integer.MIN_VALUE};
        for (int line : wrongLines) {
            CHECK.refuses("sameAtFront(" + line + ", 0)", x, IndexOutOfBoundsException.class,
                    () -> x.sameAtFront(line, 0));
            CHECK.refuses("sameAtFront(0, " + line + ")", x, IndexOutOfBoundsException.class,
                    () -> x.sameAtFront(0, line));
        }
    }
}
