/** Edges of fitting, which stands in the chapter "Formats", and of promises 9 to 16. */
final class FormatEdges extends Edges {
    static void run() {
        fittingTexts();
        fittingSizes();
        fittingSkips();
        fittingEmpty();
        setCosts();
        setCostsRefuses();
        merge();
        mergeRefuses();
        mergeBeyondForty();
        clear();
        clearKeeps();
        isMerged();
        costWith();
        fits();
        strangest();
        slotCount();
    }

    private static void fits(LineLearner x, String text, boolean due) {
        same("fits of '" + text + "'", x.fits(Texts.store(x, text)), due);
    }

    private static void fittingTexts() {
        edge("Fitting", "a slot with a text takes the same text alone", () -> {
            LineLearner x = Texts.withMerged("ab-12");
            fits(x, "ab-12", true);
            fits(x, "ac-12", false);
            fits(x, "aB-12", false);
            fits(x, "ab-13", false);
            fits(x, "ab-012", false);
            fits(x, "a-12", false);
            fits(x, "ab+12", false);
        });
        edge("Fitting", "a PAIR is of the same kind", () -> {
            LineLearner x = Texts.withMerged("a", "b");
            fits(x, "c", true);
            fits(x, "1", false);
            fits(x, " ", false);
            fits(x, "-", false);
            LineLearner y = Texts.withMerged("-", "?");
            fits(y, "+", true);
            fits(y, "a", false);
        });
    }

    private static void fittingSizes() {
        edge("Fitting", "the least size itself fits, one less does not", () -> {
            LineLearner x = Texts.withMerged("abc", "abcde");
            fits(x, "xyz", true);
            fits(x, "xy", false);
        });
        edge("Fitting", "the greatest size itself fits, one more does not", () -> {
            LineLearner x = Texts.withMerged("abc", "abcde");
            fits(x, "vwxyz", true);
            fits(x, "uvwxyz", false);
        });
        edge("Fitting", "sizes that are the same take tokens of this size alone", () -> {
            LineLearner x = Texts.withMerged("12", "34");
            fits(x, "56", true);
            fits(x, "5", false);
            fits(x, "567", false);
        });
        edge("Fitting", "sizes from 1 to 30 take every token of the kind", () -> {
            LineLearner x = Texts.withMerged("a", "b".repeat(30));
            fits(x, "c", true);
            fits(x, "c".repeat(30), true);
        });
    }

    private static void fittingSkips() {
        edge("Fitting", "each slot of a SKIP is optional", () -> {
            LineLearner x = Texts.withMerged("a-1", "a1");
            fits(x, "a1", true);
            fits(x, "a-1", true);
            fits(x, "a-", false);
            fits(x, "-1", false);
            fits(x, "1", false);
        });
        edge("Fitting", "from the beginning of both: no token in front is left over", () -> {
            LineLearner x = Texts.withMerged("a-");
            fits(x, "?a-", false);
            fits(x, "aa-", false);
        });
        edge("Fitting", "to the ends of both: no token and no slot that is not optional is left over", () -> {
            LineLearner x = Texts.withMerged("a-");
            fits(x, "a", false);
            fits(x, "a-?", false);
            LineLearner y = Texts.withMerged("a-", "a");
            fits(y, "a", true);
            fits(y, "a--", false);
        });
        edge("Fitting", "a slot takes one token only, also if it is optional", () -> {
            LineLearner x = Texts.withMerged("--", "-");
            fits(x, "--", true);
            fits(x, "---", false);
        });
        edge("Fitting", "any row of PAIRs and SKIPs will do, not only the one with the least cost", () -> {
            LineLearner x = Texts.withMerged("-1-2", "-2", "");
            fits(x, "-2", true);
            fits(x, "-1", true);
            fits(x, "1-2", true);
            fits(x, "--", true);
            fits(x, "2-1", false);
            LineLearner y = Texts.withMerged("-b-", "-", "");
            y.setCosts(0, 0, 0);
            fits(y, "b", true);
            fits(y, "-b", true);
            fits(y, "b-", true);
            fits(y, "bb", false);
        });
        edge("Fitting", "a slot that can take the token but must be left for a later one is skipped", () -> {
            LineLearner x = Texts.withMerged("?-", "+-", "-");
            fits(x, "-", true);
            fits(x, "=-", true);
            fits(x, "=", false);
            fits(x, "--", true);
            LineLearner y = Texts.withMerged("a?-", "a+-", "a-");
            fits(y, "a-", true);
            fits(y, "a=-", true);
            fits(y, "a=", false);
        });
    }

    private static void fittingEmpty() {
        edge("Fitting", "the empty line fits if there are no slots", () -> {
            LineLearner x = new LineLearner();
            fits(x, "", true);
            fits(x, "a", false);
        });
        edge("Fitting", "the empty line fits if all slots are optional", () -> {
            LineLearner x = Texts.withMerged("a-", "");
            fits(x, "", true);
        });
        edge("Fitting", "the empty line does not fit if one slot is not optional: the first, the last, the only one", () -> {
            LineLearner x = Texts.withMerged("a-", "a");
            fits(x, "", false);
            LineLearner y = Texts.withMerged("a-", "-");
            fits(y, "", false);
            LineLearner z = Texts.withMerged("a");
            fits(z, "", false);
        });
    }

    private static void setCosts() {
        edge("Promise 9", "false if all three are the same as before", () -> {
            LineLearner x = new LineLearner();
            same("the first costs", x.setCosts(2, 3, 4), false);
            x.setCosts(20, 0, 20);
            same("the greatest and the least", x.setCosts(20, 0, 20), false);
        });
        edge("Promise 9", "true if one alone is another one", () -> {
            same("change", new LineLearner().setCosts(3, 3, 4), true);
            same("skip", new LineLearner().setCosts(2, 2, 4), true);
            same("fresh", new LineLearner().setCosts(2, 3, 5), true);
            same("two of them changed about", new LineLearner().setCosts(3, 2, 4), true);
        });
        edge("Promise 9", "0 and 20 are taken, for each of them", () -> {
            for (int cost = 0; cost <= 20; cost += 20) {
                LineLearner x = Texts.withLines("a", "b", "");
                same("setCosts", x.setCosts(cost, 20, 20), true);
                x.merge(0);
                same("change of " + cost, x.costWith(1), cost);
                same("setCosts", x.setCosts(1, cost, 1), true);
                same("skip of " + cost, x.costWith(2), cost);
                same("setCosts", x.setCosts(1, 1, cost), true);
                x.clear();
                same("fresh of " + cost, x.costWith(0), cost);
            }
        });
    }

    private static void setCostsRefuses() {
        int[] wrong = beside(21);
        edge("Promise 9", "IllegalArgumentException if change is not 0 to 20", () ->
                refusedEach("change", ARGUMENT, Edges::rich, wrong, (x, cost) -> x.setCosts(cost, 9, 9)));
        edge("Promise 9", "IllegalArgumentException if skip is not 0 to 20", () ->
                refusedEach("skip", ARGUMENT, Edges::rich, wrong, (x, cost) -> x.setCosts(9, cost, 9)));
        edge("Promise 9", "IllegalArgumentException if fresh is not 0 to 20", () ->
                refusedEach("fresh", ARGUMENT, Edges::rich, wrong, (x, cost) -> x.setCosts(9, 9, cost)));
        edge("Promise 9", "IllegalArgumentException if all of them are not 0 to 20", () ->
                refusedEach("all", ARGUMENT, Edges::rich, wrong, (x, cost) -> x.setCosts(cost, cost, cost)));
        edge("Promise 9", "setCosts that is refused sets none of the three", () -> {
            LineLearner x = new LineLearner();
            throwsIt("setCosts(9, 9, 21)", ARGUMENT, () -> x.setCosts(9, 9, 21));
            throwsIt("setCosts(9, -1, 9)", ARGUMENT, () -> x.setCosts(9, -1, 9));
            throwsIt("setCosts(21, 9, 9)", ARGUMENT, () -> x.setCosts(21, 9, 9));
            same("the first costs", x.setCosts(2, 3, 4), false);
        });
    }

    private static void merge() {
        edge("Promise 10", "the empty line into the empty format costs 0 and is merged", () -> {
            LineLearner x = Texts.withLines("");
            same("merge(0)", x.merge(0), 0);
            same("isMerged(0)", x.isMerged(0), true);
            same("slotCount()", x.slotCount(), 0);
        });
        edge("Promise 10", "the longest line into the empty format", () -> {
            LineLearner x = Texts.withLines("-".repeat(30));
            same("merge(0)", x.merge(0), 120);
            same("slotCount()", x.slotCount(), 30);
        });
        edge("Promise 10", "all twelve lines can be merged, the last one first", () -> {
            LineLearner x = twelve();
            int[] due = {3, 2, 1, 0, 3, 2, 1, 0, 5, 4, 3, 12};
            for (int line = 11; line >= 0; line--) {
                same("merge(" + line + ")", x.merge(line), due[line]);
            }
            same("uses(2)", x.uses(2), 9);
            same("clear()", x.clear(), 12);
        });
        edge("Promise 10", "a line can be merged again after clear", () -> {
            LineLearner x = Texts.withMerged("a", "");
            x.clear();
            same("merge(0)", x.merge(0), 4);
            same("merge(1)", x.merge(1), 3);
        });
        edge("Promise 10", "the format may have 40 slots, and takes lines then that need no more", () -> {
            LineLearner x = Texts.withLines("-".repeat(30), "a1a1a1a1a", "a1a1a1a1a1", "");
            x.merge(0);
            same("merge to 39", x.merge(1), 126);
            same("slotCount()", x.slotCount(), 39);
            same("merge to 40", x.merge(2), 34);
            same("slotCount() then", x.slotCount(), 40);
            same("merge of the empty line", x.merge(3), 40);
            same("slotCount() at last", x.slotCount(), 40);
        });
    }

    private static void mergeRefuses() {
        edge("Promise 10", "IndexOutOfBoundsException if there is no such line", () -> {
            refusedEach("merge", INDEX, Edges::rich, beside(4), (x, line) -> x.merge(line));
            refusedEach("merge", INDEX, Edges::twelve, beside(12), (x, line) -> x.merge(line));
            refusedEach("merge", INDEX, LineLearner::new, beside(0), (x, line) -> x.merge(line));
        });
        edge("Promise 10", "IndexOutOfBoundsException if there is no such line, also if the format is full", () ->
                refusedEach("merge", INDEX, Edges::full, beside(4), (x, line) -> x.merge(line)));
        edge("Promise 10", "IllegalStateException if it is merged already", () ->
                refusedEach("merge", STATE, Edges::rich, wrong(0, 1, 3), (x, line) -> x.merge(line)));
        edge("Promise 10", "IllegalStateException if the empty line is merged already", () -> {
            refused("merge(0)", STATE, () -> Texts.withMerged(""), x -> x.merge(0));
            refused("merge(1)", STATE, () -> Texts.withMerged("a", ""), x -> x.merge(1));
        });
        edge("Promise 10", "IllegalStateException if it is merged already, also if the format is full", () ->
                refusedEach("merge", STATE, Edges::full, wrong(0, 1), (x, line) -> x.merge(line)));
    }

    private static void mergeBeyondForty() {
        edge("Promise 10", "IllegalStateException if the format would have more than 40 slots: 41 from 40", () ->
                refused("merge(2)", STATE, Edges::full, x -> x.merge(2)));
        edge("Promise 10", "IllegalStateException if the format would have more than 40 slots: 41 from 30", () -> {
            refused("merge(1)", STATE, () -> thirtyAnd("a1a1a1a1a1a"), x -> x.merge(1));
            same("merge of one token less", thirtyAnd("a1a1a1a1a1").merge(1), 130);
        });
        edge("Promise 10", "IllegalStateException if the format would have more than 40 slots: 60 from 30", () ->
                refused("merge(1)", STATE, () -> thirtyAnd("a1".repeat(15)), x -> x.merge(1)));
        edge("Promise 10", "IllegalStateException if the format would have more than 40 slots: 70 from 40", () -> {
            refused("merge(2)", STATE, FormatEdges::fortySigns, x -> x.merge(2));
            refused("merge(2) with the greatest costs", STATE, () -> {
                LineLearner x = fortySigns();
                x.setCosts(20, 20, 20);
                return x;
            }, x -> x.merge(2));
        });
        edge("Promise 10", "a line that was refused for its slots can be merged after clear", () -> {
            LineLearner x = full();
            throwsIt("merge(2)", STATE, () -> x.merge(2));
            same("isMerged(2)", x.isMerged(2), false);
            same("clear()", x.clear(), 2);
            same("merge(2) after clear", x.merge(2), 44);
        });
    }

    /** 40 slots that are SIGNs, and a line of 30 other tokens. */
    private static LineLearner fortySigns() {
        LineLearner x = Texts.withLines("-".repeat(30), "?".repeat(10), "a1".repeat(15));
        x.setCosts(20, 0, 0);
        x.merge(0);
        x.merge(1);
        return x;
    }

    private static LineLearner thirtyAnd(String text) {
        LineLearner x = Texts.withLines("-".repeat(30), text);
        x.merge(0);
        x.group(9);
        return x;
    }

    private static void clear() {
        edge("Promise 11", "0 if no line was merged", () -> {
            same("without lines", new LineLearner().clear(), 0);
            same("with lines", Texts.withLines("a", "b").clear(), 0);
        });
        edge("Promise 11", "it counts lines, the empty one too, and not slots: 12 at most", () -> {
            same("one empty line", Texts.withMerged("").clear(), 1);
            same("an empty line and another one", Texts.withMerged("a-1", "").clear(), 2);
            LineLearner x = twelve();
            for (int line = 0; line < 12; line++) {
                x.merge(line);
            }
            same("twelve lines", x.clear(), 12);
        });
        edge("Promise 11", "0 the second time", () -> {
            LineLearner x = rich();
            same("clear()", x.clear(), 3);
            same("clear() again", x.clear(), 0);
        });
        edge("Promise 11", "no line is merged then, and the format is empty", () -> {
            LineLearner x = rich();
            x.clear();
            for (int line = 0; line < 4; line++) {
                same("isMerged(" + line + ")", x.isMerged(line), false);
            }
            same("slotCount()", x.slotCount(), 0);
            throwsIt("uses(0)", INDEX, () -> x.uses(0));
            same("bits()", x.bits(), 0);
            same("saving()", x.saving(), 0.0);
            same("costWith(0)", x.costWith(0), 15);
            same("fits(2)", x.fits(2), true);
        });
    }

    private static void clearKeeps() {
        edge("Promise 11", "the lines, the buffer, the costs and the grouping stay", () -> {
            LineLearner x = rich();
            x.clear();
            same("lineCount()", x.lineCount(), 4);
            same("feed(0)", x.feed(0L), 2);
            same("groupOf(3)", x.groupOf(3), rich().groupOf(3));
            same("setCosts(3, 2, 5)", x.setCosts(3, 2, 5), false);
        });
        edge("Promise 11", "nothing of the format before comes again", () -> {
            LineLearner x = rich();
            x.clear();
            x.merge(1);
            same("the format", Texts.formatOf(x), "0:cd:2-2:1 3:-:1-1:1 1:22:2-2:1");
            same("the tokens", Texts.usersOf(x), ".,.,. 0,1,2 .,.,. .,.,.");
            same("distinct(0)", x.distinct(0), 1);
            same("clear()", x.clear(), 1);
        });
    }

    private static void isMerged() {
        edge("Promise 12", "false before the merge, and for the other lines; true after it", () -> {
            LineLearner x = twelve();
            same("isMerged(11) before", x.isMerged(11), false);
            x.merge(11);
            same("isMerged(11)", x.isMerged(11), true);
            same("isMerged(10)", x.isMerged(10), false);
            same("isMerged(0)", x.isMerged(0), false);
            x.merge(0);
            same("isMerged(0), the empty line", x.isMerged(0), true);
        });
        edge("Promise 12", "false after a merge that was refused, and after clear", () -> {
            LineLearner x = full();
            throwsIt("merge(2)", STATE, () -> x.merge(2));
            same("isMerged(2)", x.isMerged(2), false);
            x.clear();
            same("isMerged(0)", x.isMerged(0), false);
        });
        edge("Promise 12", "IndexOutOfBoundsException if there is no such line", () -> {
            refusedEach("isMerged", INDEX, Edges::rich, beside(4), (x, line) -> x.isMerged(line));
            refusedEach("isMerged", INDEX, Edges::twelve, beside(12), (x, line) -> x.isMerged(line));
            refusedEach("isMerged", INDEX, LineLearner::new, beside(0), (x, line) -> x.isMerged(line));
        });
    }

    private static void costWith() {
        edge("Promise 13", "0 for the empty line and the empty format, 600 and 1200 at most", () -> {
            LineLearner x = Texts.withLines("", "a1".repeat(15), "-".repeat(30));
            x.setCosts(20, 20, 20);
            same("costWith(0)", x.costWith(0), 0);
            same("costWith(1)", x.costWith(1), 600);
            x.merge(1);
            same("costWith(2)", x.costWith(2), 1200);
        });
        edge("Promise 13", "a line can be merged already or not", () -> {
            LineLearner x = Texts.withLines("a-1", "a-1");
            x.merge(0);
            same("costWith(0)", x.costWith(0), 0);
            same("costWith(1)", x.costWith(1), 0);
        });
        edge("Promise 13", "with the format as it is: nothing is merged, and a text that was lost costs 1", () -> {
            LineLearner x = Texts.withLines("a", "b");
            x.merge(0);
            same("costWith(1)", x.costWith(1), 2);
            same("costWith(1) again", x.costWith(1), 2);
            same("isMerged(1)", x.isMerged(1), false);
            x.merge(1);
            same("costWith(0)", x.costWith(0), 1);
        });
        edge("Promise 13", "also for a line that would need more than 40 slots", () ->
                same("costWith(2)", full().costWith(2), 34));
        edge("Promise 13", "IndexOutOfBoundsException if there is no such line", () -> {
            refusedEach("costWith", INDEX, Edges::rich, beside(4), (x, line) -> x.costWith(line));
            refusedEach("costWith", INDEX, Edges::twelve, beside(12), (x, line) -> x.costWith(line));
            refusedEach("costWith", INDEX, LineLearner::new, beside(0), (x, line) -> x.costWith(line));
        });
    }

    private static void fits() {
        edge("Promise 14", "a merged line fits, and so may one that is not merged", () -> {
            LineLearner x = Texts.withLines("a-1", "b2", "b-2", "a", "c-3");
            x.merge(0);
            x.merge(1);
            same("fits(0)", x.fits(0), true);
            same("fits(1)", x.fits(1), true);
            same("fits(2)", x.fits(2), true);
            same("fits(3)", x.fits(3), false);
            same("fits(4)", x.fits(4), true);
            same("isMerged(4)", x.isMerged(4), false);
        });
        edge("Promise 14", "30 tokens with 40 slots", () -> {
            LineLearner x = full();
            same("fits(0)", x.fits(0), true);
            same("fits(1)", x.fits(1), true);
            same("fits(2)", x.fits(2), false);
            same("fits(3)", x.fits(3), true);
        });
        edge("Promise 14", "IndexOutOfBoundsException if there is no such line", () -> {
            refusedEach("fits", INDEX, Edges::rich, beside(4), (x, line) -> x.fits(line));
            refusedEach("fits", INDEX, Edges::twelve, beside(12), (x, line) -> x.fits(line));
            refusedEach("fits", INDEX, LineLearner::new, beside(0), (x, line) -> x.fits(line));
        });
    }

    private static void strangest() {
        edge("Promise 15", "-1 if there are no lines", () -> {
            LineLearner x = new LineLearner();
            same("strangest()", x.strangest(), -1);
            Texts.feed(x, "a");
            same("strangest() with a buffer", x.strangest(), -1);
        });
        edge("Promise 15", "a line that costs nothing, if no one costs more", () -> {
            same("the empty line", Texts.withLines("").strangest(), 0);
            same("a merged line", Texts.withMerged("a").strangest(), 0);
        });
        edge("Promise 15", "of several the one with the smallest number", () -> {
            same("of two", Texts.withLines("", "a", "b").strangest(), 1);
            same("of all", Texts.withMerged("a", "a", "a").strangest(), 0);
        });
        edge("Promise 15", "the last of twelve lines, by a cost of 1", () -> {
            LineLearner x = new LineLearner();
            for (int line = 0; line < 11; line++) {
                Texts.store(x, "a");
            }
            Texts.store(x, "a-");
            x.setCosts(2, 3, 1);
            same("strangest()", x.strangest(), 11);
        });
        edge("Promise 15", "merged lines count too, and those that would need more than 40 slots", () -> {
            LineLearner x = Texts.withMerged("a-", "a");
            same("a merged line", x.strangest(), 1);
            Texts.store(x, "a-");
            same("a merged line beside one that is not", x.strangest(), 1);
            LineLearner y = full();
            y.setCosts(2, 3, 20);
            same("a line that has no room", y.strangest(), 2);
        });
    }

    private static void slotCount() {
        edge("Promise 16", "0 at first, after the empty line and after clear; 40 at most", () -> {
            LineLearner x = Texts.withLines("", "a");
            same("slotCount() at first", x.slotCount(), 0);
            x.merge(0);
            same("slotCount() after the empty line", x.slotCount(), 0);
            x.merge(1);
            same("slotCount() after another one", x.slotCount(), 1);
            x.clear();
            same("slotCount() after clear", x.slotCount(), 0);
            same("slotCount() at most", full().slotCount(), 40);
        });
    }
}
