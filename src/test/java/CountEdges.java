import java.math.BigInteger;

/** Edges of promises 26, 27 and 31. */
final class CountEdges extends Edges {
    static void run() {
        bitsOfSlots();
        bitsOfTokens();
        bitsOfLines();
        saving();
        digestOfParts();
        digestOfFormats();
        digestOfGroups();
        digestWrapsAround();
    }

    private static void bits(int due, String... texts) {
        same("bits() of " + String.join(", ", texts), Texts.withMerged(texts).bits(), due);
    }

    private static void bitsOfSlots() {
        edge("Promise 26", "0 without lines, without merged lines, with the empty line alone, and after clear", () -> {
            same("without lines", new LineLearner().bits(), 0);
            same("without merged lines", Texts.withLines("a").bits(), 0);
            bits(0, "");
            bits(0, "", "");
            LineLearner x = Texts.withMerged("a", "b", "");
            x.clear();
            same("after clear", x.bits(), 0);
        });
        edge("Promise 26", "4 for each slot and 8 for each byte of its text: 1 byte, 30 bytes, 30 slots", () -> {
            bits(4 + 8, "a");
            bits(4 + 240, "a".repeat(30));
            bits(30 * 12, "-".repeat(30));
        });
        edge("Promise 26", "a slot without a text has no bytes", () -> bits(4 + 2 * 1 + 5 * 4, "ab", "cd"));
    }

    private static void bitsOfTokens() {
        edge("Promise 26", "1 for each token that has used a slot without a text, that of the first line too", () -> {
            bits(4 + 1 + 5 + 1 + 5, "a", "b");
            bits(4 + 3 * 6, "a", "b", "a");
        });
        edge("Promise 26", "for each of its bytes 5 in a WORD", () -> bits(4 + 2 + 5 * 31, "a", "b".repeat(30)));
        edge("Promise 26", "for each of its bytes 4 in a NUMBER", () -> bits(4 + 2 + 4 * 31, "1", "2".repeat(30)));
        edge("Promise 26", "for each of its bytes 1 in a SPACE", () -> bits(4 + 2 + 31, " ", " ".repeat(30)));
        edge("Promise 26", "for each of its bytes 7 in a SIGN", () -> bits(4 + 2 + 7 * 2, "-", "?"));
        edge("Promise 26", "a token that has used a slot with a text takes none", () -> bits(4 + 16, "ab", "ab", "ab"));
    }

    private static void bitsOfLines() {
        edge("Promise 26", "1 for each merged line and each optional slot, the empty line too", () -> {
            bits(12 + 2, "a", "");
            bits(12 + 3, "a", "", "");
            bits(2 * 12 + 2, "a-", "a");
            bits(2 * 12 + 2 * 2, "a-", "");
        });
        edge("Promise 26", "an optional slot without a text takes both", () -> bits(4 + 2 * 6 + 3, "a", "b", ""));
        edge("Promise 26", "lines that are not merged take nothing", () -> {
            LineLearner x = Texts.withLines("a", "", "b");
            x.merge(0);
            same("bits() of one of three", x.bits(), 12);
            x.merge(2);
            same("bits() of two of three", x.bits(), 4 + 2 * 6);
        });
        edge("Promise 26", "twelve lines and 40 slots", () -> {
            LineLearner x = full();
            Texts.feed(x, "-".repeat(28));
            for (int line = 4; line < 12; line++) {
                x.store();
                x.merge(line);
            }
            same("bits()", x.bits(), bitsOfFull());
        });
    }

    /**
     * The first line after full() is "k9" and 28 signs: it changes the last WORD and NUMBER but takes all other
     * texts as they are; the seven lines after it are empty.
     */
    private static int bitsOfFull() {
        int slots = 40 * 4 + 38 * 8;
        int optional = 40 * 10;
        int tokens = 2 * (1 + 5) + 2 * (1 + 4);
        return slots + optional + tokens;
    }

    private static void saving() {
        edge("Promise 27", "0 if no line is merged", () -> {
            same("without lines", new LineLearner().saving(), 0.0);
            same("with lines", Texts.withLines("a").saving(), 0.0);
            LineLearner x = Texts.withMerged("a");
            x.clear();
            same("after clear", x.saving(), 0.0);
        });
        edge("Promise 27", "1 if only empty lines are merged", () -> {
            same("one", Texts.withMerged("").saving(), 1.0);
            same("two", Texts.withMerged("", "").saving(), 1.0);
        });
        edge("Promise 27", "8 for each merged line, the empty one too, and 8 for each of its bytes", () -> {
            same("one byte", Texts.withMerged("a").saving(), 1.0 - 12.0 / 16.0);
            same("30 bytes", Texts.withMerged("a".repeat(30)).saving(), 1.0 - 244.0 / 248.0);
            same("with the empty line", Texts.withMerged("a", "").saving(), 1.0 - 14.0 / 24.0);
        });
        edge("Promise 27", "lines that are not merged do not count", () -> {
            LineLearner x = Texts.withLines("a", "bbb", "");
            x.merge(0);
            same("saving()", x.saving(), 1.0 - 12.0 / 16.0);
        });
        edge("Promise 27", "below 0 if the format takes more than the lines", () ->
                same("saving()", Texts.withMerged("-".repeat(30)).saving(), 1.0 - 360.0 / 248.0));
        edge("Promise 27", "exactly 0 if it takes as much", () ->
                same("saving()", Texts.withMerged("--").saving(), 0.0));
        edge("Promise 27", "the quotient is not cut to a whole number", () ->
                same("saving()", Texts.withMerged("ab", "c").saving(), 1.0 - 21.0 / 40.0));
    }

    private static void digestIs(LineLearner x, int... numbers) {
        same("digest()", x.digest(), DigestTest.digest(numbers));
    }

    private static void digestOfParts() {
        edge("Promise 31", "a number d starts with 149, of a new object", () -> {
            digestIs(new LineLearner(), 0, 0, 2, 3, 4, 0, 0);
            same("digest() written out", new LineLearner().digest(), 4099381442798L);
        });
        edge("Promise 31", "the number of bytes in the buffer, 0 and 30, not the bytes", () -> {
            LineLearner x = new LineLearner();
            Texts.feed(x, "a".repeat(30));
            digestIs(x, 30, 0, 2, 3, 4, 0, 0);
        });
        edge("Promise 31", "the number of bytes of each line, and these: of the empty line none", () -> {
            digestIs(Texts.withLines(""), 0, 1, 0, 2, 3, 4, 0, 0);
            digestIs(Texts.withLines("", " ~", ""), 0, 3, 0, 2, 32, 126, 0, 2, 3, 4, 0, 0);
            digestIs(Texts.withLines("", "", "", "", "", "", "", "", "", "", "", "b"),
                    0, 12, 0, 0, 0, 0, 0, 0, 0, 0, 0, 0, 0, 1, 98, 2, 3, 4, 0, 0);
        });
        edge("Promise 31", "the three costs, in their order", () -> {
            LineLearner x = new LineLearner();
            x.setCosts(20, 0, 19);
            digestIs(x, 0, 0, 20, 0, 19, 0, 0);
        });
    }

    private static void digestOfFormats() {
        edge("Promise 31", "of each slot: the kind, both sizes, the uses and the size of its text", () -> {
            digestIs(Texts.withMerged("ab 1"), 0, 1, 4, 97, 98, 32, 49, 2, 3, 4,
                    3, 0, 2, 2, 1, 2, 2, 1, 1, 1, 1, 1, 1, 1, 1, 1, 1);
        });
        edge("Promise 31", "-1 for the size of no text", () ->
                digestIs(Texts.withMerged("a", "bcd"), 0, 2, 1, 97, 3, 98, 99, 100, 2, 3, 4, 1, 0, 1, 3, 2, -1, 2));
        edge("Promise 31", "the number of merged lines, the empty one too, and not those that are not merged", () -> {
            LineLearner x = Texts.withLines("", "a", "");
            x.merge(0);
            digestIs(x, 0, 3, 0, 1, 97, 0, 2, 3, 4, 0, 1);
            x.merge(2);
            digestIs(x, 0, 3, 0, 1, 97, 0, 2, 3, 4, 0, 2);
            x.clear();
            digestIs(x, 0, 3, 0, 1, 97, 0, 2, 3, 4, 0, 0);
        });
    }

    private static void digestOfGroups() {
        edge("Promise 31", "if there is a grouping, the group of each line", () -> {
            LineLearner x = Texts.withLines("a", "", "b");
            digestIs(x, 0, 3, 1, 97, 0, 1, 98, 2, 3, 4, 0, 0);
            x.group(2);
            digestIs(x, 0, 3, 1, 97, 0, 1, 98, 2, 3, 4, 0, 0, 0, 1, 0);
            x.setCosts(2, 3, 4);
            digestIs(x, 0, 3, 1, 97, 0, 1, 98, 2, 3, 4, 0, 0);
        });
        edge("Promise 31", "a grouping of no lines adds no number", () -> {
            LineLearner x = new LineLearner();
            x.group(200);
            digestIs(x, 0, 0, 2, 3, 4, 0, 0);
        });
        edge("Promise 31", "a grouping in which all are of group 0 adds numbers too", () -> {
            LineLearner x = Texts.withLines("");
            x.group(0);
            digestIs(x, 0, 1, 0, 2, 3, 4, 0, 0, 0);
        });
    }

    /** d without a bound, and what 64 bits with a sign hold of it. */
    private static long wrapped(int... numbers) {
        BigInteger d = BigInteger.valueOf(149);
        for (int x : numbers) {
            d = d.multiply(BigInteger.valueOf(31)).add(BigInteger.valueOf(x));
        }
        return d.longValue();
    }

    private static void digestWrapsAround() {
        edge("Promise 31", "d wraps around as a 64-bit integer, to negative numbers and back", () -> {
            int negative = 0;
            for (int size = 0; size <= 30; size++) {
                String text = "~".repeat(size);
                LineLearner x = Texts.withLines(text);
                negative += x.digest() < 0 ? 1 : 0;
                same("digest() of " + size + " bytes", x.digest(), wrapped(Texts.numbersOf(text)));
            }
            same("some are negative, some are not", negative > 5 && negative < 25, true);
        });
        edge("Promise 31", "-1 of no text takes 1 away from d", () -> {
            LineLearner x = Texts.withMerged("1", "2");
            same("digest()", x.digest(), wrapped(0, 2, 1, 49, 1, 50, 2, 3, 4, 1, 1, 1, 1, 2, -1, 2));
        });
    }
}
