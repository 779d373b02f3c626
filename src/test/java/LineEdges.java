/** Edges of the chapters "What it is" and "Lines", and of promises 1 to 8. */
final class LineEdges extends Edges {
    static void run() {
        whatItIs();
        lines();
        bytesOfKinds();
        runsOfBytes();
        newObject();
        feedTakes();
        feedRefuses();
        store();
        lineCount();
        tokenCount();
        tokenKind();
        tokenStart();
        sameAtFront();
        sameAtFrontRefuses();
    }

    private static void whatItIs() {
        edge("What it is", "an object is used for 512 calls: the last one of them still holds", () -> {
            LineLearner x = Texts.withLines("ab-1");
            for (int call = 2; call < 508; call += 2) {
                x.merge(0);
                x.clear();
            }
            same("call 509: merge(0)", x.merge(0), 12);
            same("call 510: uses(2)", x.uses(2), 1);
            same("call 511: bits()", x.bits(), 3 * 4 + 4 * 8);
            same("call 512: clear()", x.clear(), 1);
            LineLearner y = new LineLearner();
            for (int call = 0; call < 511; call++) {
                y.setCosts(call % 21, call % 20, call % 19);
            }
            same("call 512: setCosts(6, 10, 16)", y.setCosts(510 % 21, 510 % 20, 510 % 19), false);
        });
    }

    private static void lines() {
        edge("Lines", "there are at most 12 lines", () -> {
            LineLearner x = twelve();
            same("lineCount() of 12", x.lineCount(), 12);
            throwsIt("store() of a 13th", STATE, () -> x.store());
            same("lineCount() after it", x.lineCount(), 12);
        });
        edge("Lines", "twelve lines of thirty tokens each", () -> {
            LineLearner x = new LineLearner();
            for (int line = 0; line < 12; line++) {
                Texts.store(x, "-".repeat(29) + (char) ('0' + line));
                x.merge(line);
            }
            same("tokenCount(11)", x.tokenCount(11), 30);
            same("tokenKind(11, 29)", x.tokenKind(11, 29), 3);
            same("tokenAt(11, 29)", x.tokenAt(11, 29), 29);
            same("tokenAt(11, 30)", x.tokenAt(11, 30), -1);
            same("tokenAt(11, 28)", x.tokenAt(11, 28), 28);
            same("sameAtFront(11, 10)", x.sameAtFront(11, 10), 29);
        });
        edge("Lines", "lines are numbered from 0 in the order in which they were stored", () -> {
            LineLearner x = new LineLearner();
            for (int line = 0; line < 12; line++) {
                same("store()", Texts.store(x, "-".repeat(11 - line)), line);
            }
            for (int line = 0; line < 12; line++) {
                same("tokenCount(" + line + ")", x.tokenCount(line), 11 - line);
            }
        });
        edge("Lines", "a line has at most 30 bytes", () -> {
            LineLearner x = Texts.withLines("-".repeat(30));
            same("tokenCount(0) of 30 bytes", x.tokenCount(0), 30);
            Texts.feed(x, "-".repeat(30));
            throwsIt("feed of the 31st", STATE, () -> x.feed('-'));
            x.store();
            same("tokenCount(1) after a 31st", x.tokenCount(1), 30);
        });
        edge("Lines", "a line has bytes 32 to 126", () -> {
            for (int one = 32; one <= 126; one++) {
                LineLearner x = new LineLearner();
                same("feed(" + one + ")", x.feed(one), 1);
                x.store();
                same("digest() of " + one, x.digest(), DigestTest.digest(0, 1, 1, one, 2, 3, 4, 0, 0));
            }
            LineLearner x = new LineLearner();
            throwsIt("feed(31)", ARGUMENT, () -> x.feed(31));
            throwsIt("feed(127)", ARGUMENT, () -> x.feed(127));
        });
        edge("Lines", "a line can be empty", () -> {
            LineLearner x = Texts.withLines("", "a", "");
            same("lineCount()", x.lineCount(), 3);
            same("tokenCount(0)", x.tokenCount(0), 0);
            same("tokenCount(2)", x.tokenCount(2), 0);
            same("merge(2)", x.merge(2), 0);
            same("digest()", x.digest(), DigestTest.digest(0, 3, 0, 1, 97, 0, 2, 3, 4, 0, 1));
        });
        edge("Lines", "tokens are cut from the beginning on and numbered from 0", () -> {
            LineLearner x = Texts.withLines(" a-1", "-1 a");
            same("tokenKind(0, 0)", x.tokenKind(0, 0), 2);
            same("tokenKind(0, 3)", x.tokenKind(0, 3), 1);
            same("tokenKind(1, 0)", x.tokenKind(1, 0), 3);
            same("tokenKind(1, 3)", x.tokenKind(1, 3), 0);
        });
    }

    /** The kinds of all tokens of a line. */
    private static void kinds(String text, int... due) {
        LineLearner x = Texts.withLines(text);
        same("tokenCount of '" + text + "'", x.tokenCount(0), due.length);
        for (int token = 0; token < Math.min(due.length, x.tokenCount(0)); token++) {
            same("tokenKind(0, " + token + ") of '" + text + "'", x.tokenKind(0, token), due[token]);
        }
    }

    private static void bytesOfKinds() {
        edge("Lines", "a WORD is of the letters A to Z and a to z: the bytes beside them are SIGNs", () -> {
            kinds("@A", 3, 0);
            kinds("Z[", 0, 3);
            kinds("`a", 3, 0);
            kinds("z{", 0, 3);
        });
        edge("Lines", "a NUMBER is of digits: the bytes beside them are SIGNs", () -> {
            kinds("/0", 3, 1);
            kinds("9:", 1, 3);
        });
        edge("Lines", "a SPACE is of bytes 32: the byte beside it is a SIGN", () -> kinds(" !", 2, 3));
        edge("Lines", "a SIGN is any other byte", () -> {
            for (char one : "!\"#$%&'()*+,-./:;<=>?@[\\]^_`{|}~".toCharArray()) {
                kinds("" + one, 3);
            }
        });
    }

    private static void runsOfBytes() {
        edge("Lines", "a WORD has as many letters as follow each other", () -> {
            kinds("a", 0);
            kinds("aZzA", 0);
            kinds("abcdefghijklmnopqrstuvwxyzABCD", 0);
            kinds("a1a", 0, 1, 0);
        });
        edge("Lines", "a NUMBER has as many digits as follow each other", () -> {
            kinds("0", 1);
            kinds("0123456789", 1);
            kinds("9".repeat(30), 1);
            kinds("1 1", 1, 2, 1);
        });
        edge("Lines", "a SPACE has as many bytes 32 as follow each other", () -> {
            kinds(" ", 2);
            kinds(" ".repeat(30), 2);
            kinds("  -  ", 2, 3, 2);
        });
        edge("Lines", "a SIGN is one byte, also if the same follows", () -> {
            kinds("--", 3, 3);
            kinds("-a--", 3, 0, 3, 3);
            same("tokenCount of 30 signs", Texts.withLines("~".repeat(30)).tokenCount(0), 30);
        });
    }

    private static void newObject() {
        LineLearner x = new LineLearner();
        edge("Promise 1", "without lines", () -> {
            same("lineCount()", x.lineCount(), 0);
            throwsIt("tokenCount(0)", INDEX, () -> x.tokenCount(0));
            throwsIt("isMerged(0)", INDEX, () -> x.isMerged(0));
            same("clear()", x.clear(), 0);
        });
        edge("Promise 1", "with an empty buffer", () -> {
            same("feed(0)", x.feed(0L), 0);
            same("feed of the first byte", new LineLearner().feed(97L), 1);
        });
        edge("Promise 1", "with an empty format", () -> {
            same("slotCount()", x.slotCount(), 0);
            throwsIt("slotKind(0)", INDEX, () -> x.slotKind(0));
        });
        edge("Promise 1", "nothing was grouped", () -> {
            throwsIt("groupOf(0)", STATE, () -> x.groupOf(0));
            throwsIt("groupSlots(0)", STATE, () -> x.groupSlots(0));
        });
        edge("Promise 1", "a new object has nothing of another one", () -> {
            LineLearner y = rich();
            LineLearner z = new LineLearner();
            same("digest()", z.digest(), DigestTest.digest(0, 0, 2, 3, 4, 0, 0));
            Texts.feed(y, "x");
            y.clear();
            same("digest() later", z.digest(), DigestTest.digest(0, 0, 2, 3, 4, 0, 0));
            same("lineCount()", z.lineCount(), 0);
        });
    }

    /** The buffer of a learner without lines must hold this text; the checksum of the line it makes tells. */
    private static void lineIs(LineLearner x, String text) {
        x.store();
        same("the line '" + text + "'", x.digest(), DigestTest.digest(Texts.numbersOf(text)));
    }

    private static void feedTakes() {
        edge("Promise 2", "a number without bytes appends none, also to a full buffer", () -> {
            LineLearner x = new LineLearner();
            same("feed(0)", x.feed(0L), 0);
            Texts.feed(x, "-".repeat(30));
            same("feed(0) to 30", x.feed(0L), 30);
        });
        edge("Promise 2", "up to 8 bytes, the highest one first", () -> {
            LineLearner x = new LineLearner();
            same("feed of 8", x.feed(Texts.packed("zyxwvuts")), 8);
            same("feed of 1", x.feed('a'), 9);
            lineIs(x, "zyxwvutsa");
        });
        edge("Promise 2", "without those that are 0: in front, between and behind", () -> {
            LineLearner x = new LineLearner();
            same("feed with bytes 0", x.feed(0x0061006200630000L), 3);
            same("feed with 7 bytes 0 behind", x.feed(0x6400000000000000L), 4);
            same("feed with the lowest and the highest", x.feed(0x6500000000000066L), 6);
            lineIs(x, "abcdef");
        });
        edge("Promise 2", "bytes 32 and 126 are taken at each of the 8 places", () -> {
            for (int place = 0; place < 8; place++) {
                same("feed of 32 at " + place, new LineLearner().feed(32L << 8 * place), 1);
                same("feed of 126 at " + place, new LineLearner().feed(126L << 8 * place), 1);
            }
        });
        edge("Promise 2", "there may be 30 bytes in the buffer", () -> {
            LineLearner x = new LineLearner();
            Texts.feed(x, "-".repeat(29));
            same("feed of 1 to 29", x.feed(0x6100L), 30);
            LineLearner y = new LineLearner();
            Texts.feed(y, "-".repeat(22));
            same("feed of 8 to 22", y.feed(Texts.packed("abcdefgh")), 30);
            lineIs(y, "-".repeat(22) + "abcdefgh");
        });
    }

    private static void feedRefuses() {
        edge("Promise 2", "IllegalArgumentException if one of the bytes is not 0 or 32 to 126, at each place", () -> {
            for (int place = 0; place < 8; place++) {
                long right = Texts.packed("abcdefgh") & ~(255L << 8 * place);
                for (long one : new long[] {1, 31, 127, 128, 160, 255}) {
                    long alone = one << 8 * place;
                    refused("feed(" + alone + ")", ARGUMENT, Edges::rich, x -> x.feed(alone));
                    refused("feed(" + (right | alone) + ")", ARGUMENT, Edges::rich, x -> x.feed(right | alone));
                }
            }
        });
        edge("Promise 2", "IllegalStateException if there would be more than 30 bytes in the buffer", () -> {
            refused("feed of 1 to 30", STATE, () -> buffered(30), x -> x.feed('a'));
            refused("feed of 2 to 29", STATE, () -> buffered(29), x -> x.feed(0x6100000000000062L));
            refused("feed of 8 to 23", STATE, () -> buffered(23), x -> x.feed(Texts.packed("abcdefgh")));
            refused("feed of 8 to 30", STATE, () -> buffered(30), x -> x.feed(Texts.packed("abcdefgh")));
        });
        edge("Promise 2", "a refused feed leaves the bytes of the buffer, and later ones follow them", () -> {
            LineLearner x = new LineLearner();
            Texts.feed(x, "ab");
            throwsIt("feed of 'cd' and 31", ARGUMENT, () -> x.feed(0x63641FL));
            same("feed of 'e'", x.feed('e'), 3);
            lineIs(x, "abe");
            LineLearner y = new LineLearner();
            Texts.feed(y, "-".repeat(24));
            throwsIt("feed of 7 to 24", STATE, () -> y.feed(Texts.packed("abcdefg")));
            same("feed of 6 to 24", y.feed(Texts.packed("123456")), 30);
            lineIs(y, "-".repeat(24) + "123456");
        });
        edge("Promise 2", "of both exceptions IllegalArgumentException is thrown, which is named first", () -> {
            refused("feed(31) to 30", ARGUMENT, () -> buffered(30), x -> x.feed(31L));
            refused("feed of 7 right ones and 127 to 25", ARGUMENT, () -> buffered(25),
                    x -> x.feed(Texts.packed("abcdefg") << 8 | 127));
            refused("feed(-1) to 23", ARGUMENT, () -> buffered(23), x -> x.feed(-1L));
        });
    }

    private static LineLearner buffered(int size) {
        LineLearner x = rich();
        x.store();
        x.group(6);
        Texts.feed(x, "m1-".repeat(10).substring(0, size));
        return x;
    }

    private static void store() {
        edge("Promise 3", "an empty buffer makes an empty line", () -> {
            LineLearner x = new LineLearner();
            same("store()", x.store(), 0);
            same("store() again", x.store(), 1);
            same("tokenCount(1)", x.tokenCount(1), 0);
        });
        edge("Promise 3", "a full buffer makes a line of 30 bytes", () -> {
            LineLearner x = new LineLearner();
            Texts.feed(x, "abcdefghijklmnopqrstuvwxyz1234");
            lineIs(x, "abcdefghijklmnopqrstuvwxyz1234");
        });
        edge("Promise 3", "a line of 30 bytes keeps the last one when others are stored", () -> {
            LineLearner x = Texts.withLines("a".repeat(29) + "-", "1", "b".repeat(30));
            same("tokenKind(0, 1)", x.tokenKind(0, 1), 3);
            x.merge(0);
            same("textByte(1, 0)", x.textByte(1, 0), '-');
            same("textByte(0, 28)", x.textByte(0, 28), 'a');
            x.clear();
            x.merge(2);
            same("textByte(0, 0) of the third line", x.textByte(0, 0), 'b');
        });
        edge("Promise 3", "the buffer is empty then", () -> {
            LineLearner x = Texts.withLines("-".repeat(30));
            same("feed(0)", x.feed(0L), 0);
            same("store() of the empty buffer", x.store(), 1);
            same("tokenCount(1)", x.tokenCount(1), 0);
            Texts.feed(x, "-".repeat(29));
            same("feed of the 30th", x.feed('-'), 30);
        });
        edge("Promise 3", "the number of the line: 0 for the first, 11 for the twelfth", () -> {
            LineLearner x = new LineLearner();
            for (int line = 0; line < 12; line++) {
                same("store()", x.store(), line);
            }
        });
        edge("Promise 3", "IllegalStateException if there are 12 lines", () -> {
            refused("store() of nothing", STATE, Edges::twelve, x -> x.store());
            refused("store() of 3 bytes", STATE, () -> twelveAnd("a-1"), x -> x.store());
            refused("store() of 30 bytes", STATE, () -> twelveAnd("-".repeat(30)), x -> x.store());
        });
        edge("Promise 3", "a refused store keeps the buffer, the lines and the grouping", () -> {
            LineLearner x = twelveAnd("a-1");
            throwsIt("store()", STATE, () -> x.store());
            same("feed(0)", x.feed(0L), 3);
            same("lineCount()", x.lineCount(), 12);
            same("tokenCount(11)", x.tokenCount(11), 3);
            same("groupOf(11)", x.groupOf(11), 3);
        });
    }

    private static LineLearner twelveAnd(String buffer) {
        LineLearner x = twelve();
        x.merge(3);
        x.group(1);
        Texts.feed(x, buffer);
        return x;
    }

    private static void lineCount() {
        edge("Promise 4", "0 at first, 12 at most", () -> {
            LineLearner x = new LineLearner();
            same("lineCount() at first", x.lineCount(), 0);
            Texts.feed(x, "a");
            same("lineCount() with a buffer", x.lineCount(), 0);
            for (int line = 0; line < 12; line++) {
                x.store();
                same("lineCount()", x.lineCount(), line + 1);
            }
            x.clear();
            same("lineCount() after clear", x.lineCount(), 12);
        });
    }

    private static void tokenCount() {
        edge("Promise 5", "0 for the empty line, 30 at most", () -> {
            LineLearner x = Texts.withLines("", "?".repeat(30), "a");
            same("tokenCount(0)", x.tokenCount(0), 0);
            same("tokenCount(1)", x.tokenCount(1), 30);
            same("tokenCount(2)", x.tokenCount(2), 1);
        });
        edge("Promise 5", "IndexOutOfBoundsException if there is no such line", () -> {
            refusedEach("tokenCount", INDEX, Edges::rich, beside(4), (x, line) -> x.tokenCount(line));
            refusedEach("tokenCount", INDEX, Edges::twelve, beside(12), (x, line) -> x.tokenCount(line));
            refusedEach("tokenCount", INDEX, LineLearner::new, beside(0), (x, line) -> x.tokenCount(line));
        });
    }

    private static void tokenKind() {
        edge("Promise 6", "the first and the last token have their kinds", () -> {
            LineLearner x = Texts.withLines("a" + "-".repeat(28) + "1", "?");
            same("tokenKind(0, 0)", x.tokenKind(0, 0), 0);
            same("tokenKind(0, 28)", x.tokenKind(0, 28), 3);
            same("tokenKind(0, 29)", x.tokenKind(0, 29), 1);
            same("tokenKind(1, 0)", x.tokenKind(1, 0), 3);
        });
        edge("Promise 6", "IndexOutOfBoundsException if there is no such line", () -> {
            refusedEach("tokenKind(.., 0)", INDEX, Edges::rich, beside(4), (x, line) -> x.tokenKind(line, 0));
            refusedEach("tokenKind(.., 0)", INDEX, LineLearner::new, beside(0), (x, line) -> x.tokenKind(line, 0));
            refused("tokenKind(-1, -1)", INDEX, Edges::rich, x -> x.tokenKind(-1, -1));
            refused("tokenKind(4, 30)", INDEX, Edges::rich, x -> x.tokenKind(4, 30));
        });
        edge("Promise 6", "IndexOutOfBoundsException if there is no such token", () -> {
            refusedEach("tokenKind(0, ..)", INDEX, Edges::rich, beside(3), (x, token) -> x.tokenKind(0, token));
            refusedEach("tokenKind(2, ..)", INDEX, Edges::rich, beside(0), (x, token) -> x.tokenKind(2, token));
            refusedEach("tokenKind(0, ..)", INDEX, Edges::full, beside(30), (x, token) -> x.tokenKind(0, token));
        });
    }

    private static void tokenStart() {
        edge("Promise 7", "the place in the line: 0 for the first token, 29 at most", () -> {
            LineLearner x = Texts.withLines("-".repeat(30), "ab" + " ".repeat(27) + "1", "a");
            same("tokenStart(0, 0)", x.tokenStart(0, 0), 0);
            same("tokenStart(0, 29)", x.tokenStart(0, 29), 29);
            same("tokenStart(1, 0)", x.tokenStart(1, 0), 0);
            same("tokenStart(1, 1)", x.tokenStart(1, 1), 2);
            same("tokenStart(1, 2)", x.tokenStart(1, 2), 29);
            same("tokenStart(2, 0)", x.tokenStart(2, 0), 0);
        });
        edge("Promise 7", "IndexOutOfBoundsException if there is no such line", () -> {
            refusedEach("tokenStart(.., 0)", INDEX, Edges::rich, beside(4), (x, line) -> x.tokenStart(line, 0));
            refusedEach("tokenStart(.., 0)", INDEX, LineLearner::new, beside(0), (x, line) -> x.tokenStart(line, 0));
            refused("tokenStart(-1, -1)", INDEX, Edges::rich, x -> x.tokenStart(-1, -1));
            refused("tokenStart(4, 30)", INDEX, Edges::rich, x -> x.tokenStart(4, 30));
        });
        edge("Promise 7", "IndexOutOfBoundsException if there is no such token", () -> {
            refusedEach("tokenStart(0, ..)", INDEX, Edges::rich, beside(3), (x, token) -> x.tokenStart(0, token));
            refusedEach("tokenStart(2, ..)", INDEX, Edges::rich, beside(0), (x, token) -> x.tokenStart(2, token));
            refusedEach("tokenStart(0, ..)", INDEX, Edges::full, beside(30), (x, token) -> x.tokenStart(0, token));
        });
    }

    private static void sameAtFront() {
        edge("Promise 8", "0 if the first tokens differ, or a line is empty", () -> {
            LineLearner x = Texts.withLines("a-1", "b-1", "", "1-a");
            same("sameAtFront(0, 1)", x.sameAtFront(0, 1), 0);
            same("sameAtFront(0, 2)", x.sameAtFront(0, 2), 0);
            same("sameAtFront(2, 0)", x.sameAtFront(2, 0), 0);
            same("sameAtFront(2, 2)", x.sameAtFront(2, 2), 0);
            same("sameAtFront(0, 3)", x.sameAtFront(0, 3), 0);
        });
        edge("Promise 8", "all tokens, if one line ends where the other goes on, or they are alike", () -> {
            LineLearner x = Texts.withLines("a-1", "a-1 b", "a-1", "-".repeat(30), "-".repeat(30), "-".repeat(29));
            same("sameAtFront(0, 1)", x.sameAtFront(0, 1), 3);
            same("sameAtFront(1, 0)", x.sameAtFront(1, 0), 3);
            same("sameAtFront(0, 2)", x.sameAtFront(0, 2), 3);
            same("sameAtFront(1, 1)", x.sameAtFront(1, 1), 5);
            same("sameAtFront(3, 4)", x.sameAtFront(3, 4), 30);
            same("sameAtFront(4, 5)", x.sameAtFront(4, 5), 29);
            same("sameAtFront(5, 4)", x.sameAtFront(5, 4), 29);
        });
        edge("Promise 8", "only tokens at the beginning count", () -> {
            LineLearner x = Texts.withLines("a-1-1", "a-2-1");
            same("sameAtFront(0, 1)", x.sameAtFront(0, 1), 2);
        });
        edge("Promise 8", "the texts are the same: not a longer one, not another letter case, not the same number", () -> {
            LineLearner x = Texts.withLines("-ab", "-abc", "-aB", "-7", "-07", "-ba");
            same("sameAtFront(0, 1)", x.sameAtFront(0, 1), 1);
            same("sameAtFront(1, 0)", x.sameAtFront(1, 0), 1);
            same("sameAtFront(0, 2)", x.sameAtFront(0, 2), 1);
            same("sameAtFront(3, 4)", x.sameAtFront(3, 4), 1);
            same("sameAtFront(0, 5)", x.sameAtFront(0, 5), 1);
        });
    }

    private static void sameAtFrontRefuses() {
        edge("Promise 8", "IndexOutOfBoundsException if there is no such line: the first, the second, both", () -> {
            refusedEach("sameAtFront(.., 0)", INDEX, Edges::rich, beside(4), (x, line) -> x.sameAtFront(line, 0));
            refusedEach("sameAtFront(0, ..)", INDEX, Edges::rich, beside(4), (x, line) -> x.sameAtFront(0, line));
            refusedEach("sameAtFront(.., ..)", INDEX, Edges::rich, beside(4), (x, line) -> x.sameAtFront(line, line));
            refusedEach("sameAtFront(.., ..)", INDEX, LineLearner::new, beside(0),
                    (x, line) -> x.sameAtFront(line, line));
        });
    }
}
