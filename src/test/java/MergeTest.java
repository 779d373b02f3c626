/** Promises 9 to 13. */
public final class MergeTest {
    private static final Check CHECK = new Check("MergeTest");
    private static final String THIRTY_SIGNS = "------------------------------";

    public static void main(String[] args) {
        setCostsTells();
        setCostsRefuses();
        setCostsEndsGrouping();
        mergeOneLine();
        mergeLosesTexts();
        mergeSkips();
        mergeOfOtherKinds();
        pairComesFirst();
        skipComesBeforeFresh();
        earlierStepsDecide();
        freshSlotsComeAtTheirPlaces();
        costsOfNothing();
        optionalSlotsCostOne();
        mergeRefuses();
        mergeAtFortySlots();
        clearEmpties();
        costWithTells();
        linesRefuse();
        CHECK.finish();
    }

    private static void setCostsTells() {
        LineLearner x = Texts.withLines("a", "b", "");
        CHECK.same("same costs", x.setCosts(2, 3, 4), false);
        CHECK.same("another change", x.setCosts(5, 3, 4), true);
        CHECK.same("another skip", x.setCosts(5, 6, 4), true);
        CHECK.same("another fresh", x.setCosts(5, 6, 9), true);
        CHECK.same("same costs again", x.setCosts(5, 6, 9), false);
        CHECK.same("cost fresh", x.merge(0), 9);
        CHECK.same("cost change", x.costWith(1), 5);
        CHECK.same("cost skip", x.costWith(2), 6);
        CHECK.same("the greatest costs", x.setCosts(20, 20, 20), true);
        CHECK.same("cost change of 20", x.costWith(1), 20);
        CHECK.same("the least costs", x.setCosts(0, 0, 0), true);
        CHECK.same("cost change of 0", x.costWith(1), 0);
        CHECK.same("digest()", x.digest(), DigestTest.digest(0, 3, 1, 97, 1, 98, 0, 0, 0, 0, 1, 0, 1, 1, 1, 1, 1));
    }

    private static void setCostsRefuses() {
        LineLearner x = Texts.withMerged("a-1", "b");
        x.group(3);
        int[] wrong = {-1, 21, Integer.MAX_VALUE, Integer.MIN_VALUE};
        for (int cost : wrong) {
            CHECK.refuses("change " + cost, x, IllegalArgumentException.class, () -> x.setCosts(cost, 1, 1));
            CHECK.refuses("skip " + cost, x, IllegalArgumentException.class, () -> x.setCosts(1, cost, 1));
            CHECK.refuses("fresh " + cost, x, IllegalArgumentException.class, () -> x.setCosts(1, 1, cost));
        }
        CHECK.same("costs kept", x.setCosts(2, 3, 4), false);
    }

    private static void setCostsEndsGrouping() {
        LineLearner x = Texts.withLines("a");
        x.group(3);
        CHECK.same("same costs", x.setCosts(2, 3, 4), false);
        CHECK.refuses("groupOf(0)", x, IllegalStateException.class, () -> x.groupOf(0));
    }

    private static void mergeOneLine() {
        LineLearner x = Texts.withLines("id-12  x", "");
        CHECK.same("merge(0)", x.merge(0), 20);
        CHECK.same("format", Texts.formatOf(x), "0:id:2-2:1 3:-:1-1:1 1:12:2-2:1 2:  :2-2:1 0:x:1-1:1");
        CHECK.same("isMerged(0)", x.isMerged(0), true);
        CHECK.same("isMerged(1)", x.isMerged(1), false);
    }

    private static void mergeLosesTexts() {
        LineLearner x = Texts.withLines("ab", "c", "ab", "c");
        CHECK.same("merge(0)", x.merge(0), 4);
        CHECK.same("merge(1) changes", x.merge(1), 2);
        CHECK.same("format", Texts.formatOf(x), "0:*:1-2:2");
        CHECK.same("merge(2) pairs with no text", x.merge(2), 1);
        CHECK.same("format stays general", Texts.formatOf(x), "0:*:1-2:3");
        LineLearner y = Texts.withLines("ab", "ab");
        y.merge(1);
        CHECK.same("merge of the same text", y.merge(0), 0);
        CHECK.same("format keeps its text", Texts.formatOf(y), "0:ab:2-2:2");
    }

    private static void mergeSkips() {
        LineLearner x = Texts.withLines("a-1", "a", "a-1");
        x.merge(0);
        CHECK.same("merge(1)", x.merge(1), 6);
        CHECK.same("format", Texts.formatOf(x), "0:a:1-1:2 3:-:1-1:1? 1:1:1-1:1?");
        CHECK.same("merge(2)", x.merge(2), 0);
        CHECK.same("optional for good", Texts.formatOf(x), "0:a:1-1:3 3:-:1-1:2? 1:1:1-1:2?");
    }

    private static void mergeOfOtherKinds() {
        LineLearner x = Texts.withLines("a", "1");
        x.setCosts(0, 20, 20);
        x.merge(0);
        CHECK.same("merge of another kind", x.merge(1), 40);
        CHECK.same("format", Texts.formatOf(x), "1:1:1-1:1? 0:a:1-1:1?");
    }

    private static void pairComesFirst() {
        LineLearner x = Texts.withLines("a", "b");
        x.setCosts(7, 3, 4);
        x.merge(0);
        CHECK.same("pair as dear as skip and fresh", x.merge(1), 7);
        CHECK.same("format", Texts.formatOf(x), "0:*:1-1:2");
        LineLearner y = Texts.withLines("a-a", "a");
        y.merge(0);
        CHECK.same("one of two slots", y.merge(1), 6);
        CHECK.same("not the first", y.tokenAt(1, 0), -1);
        CHECK.same("the last", y.tokenAt(1, 2), 0);
        LineLearner z = Texts.withLines("a", "a-a");
        z.merge(0);
        CHECK.same("one of two tokens", z.merge(1), 8);
        CHECK.same("the last token", z.tokenAt(1, 2), 2);
        CHECK.same("the old slot is last", z.tokenAt(0, 2), 0);
    }

    private static void skipComesBeforeFresh() {
        LineLearner x = Texts.withLines("a", "b");
        x.setCosts(8, 3, 4);
        x.merge(0);
        CHECK.same("skip and fresh", x.merge(1), 7);
        CHECK.same("the fresh one in front", Texts.formatOf(x), "0:b:1-1:1? 0:a:1-1:1?");
        LineLearner y = Texts.withLines("a-", "1 ");
        y.merge(0);
        CHECK.same("two of each", y.merge(1), 14);
        CHECK.same("the fresh ones in front", Texts.formatOf(y), "1:1:1-1:1? 2: :1-1:1? 0:a:1-1:1? 3:-:1-1:1?");
    }

    private static void earlierStepsDecide() {
        LineLearner x = Texts.withLines("--", "---");
        x.merge(0);
        CHECK.same("merge(1)", x.merge(1), 4);
        CHECK.same("the first is fresh", x.tokenAt(0, 0), -1);
        CHECK.same("format", Texts.formatOf(x), "3:-:1-1:1? 3:-:1-1:2 3:-:1-1:2");
        LineLearner y = Texts.withLines("a1b1c", "1c");
        y.setCosts(20, 3, 4);
        y.merge(0);
        CHECK.same("merge(1) of the end", y.merge(1), 9);
        CHECK.same("format of the end", Texts.formatOf(y), "0:a:1-1:1? 1:1:1-1:1? 0:b:1-1:1? 1:1:1-1:2 0:c:1-1:2");
        LineLearner z = Texts.withLines("---", "-");
        z.setCosts(2, 0, 0);
        z.merge(0);
        CHECK.same("merge(1) of nothing", z.merge(1), 0);
        CHECK.same("the last step is a pair", Texts.formatOf(z), "3:-:1-1:1? 3:-:1-1:1? 3:-:1-1:2");
    }

    private static void freshSlotsComeAtTheirPlaces() {
        LineLearner x = Texts.withLines("a b", "x1a-b?", "a b");
        x.merge(0);
        CHECK.same("merge(1)", x.merge(1), 19);
        CHECK.same("format", Texts.formatOf(x),
                "0:x:1-1:1? 1:1:1-1:1? 0:a:1-1:2 3:-:1-1:1? 2: :1-1:1? 0:b:1-1:2 3:?:1-1:1?");
        CHECK.same("tokenAt(0, 5)", x.tokenAt(0, 5), 2);
        CHECK.same("tokenAt(1, 5)", x.tokenAt(1, 5), 4);
        CHECK.same("merge(2) skips", x.merge(2), 4);
        CHECK.same("format later", Texts.formatOf(x),
                "0:x:1-1:1? 1:1:1-1:1? 0:a:1-1:3 3:-:1-1:1? 2: :1-1:2? 0:b:1-1:3 3:?:1-1:1?");
    }

    private static void costsOfNothing() {
        LineLearner x = Texts.withLines("a", "b");
        x.setCosts(0, 0, 0);
        x.merge(0);
        CHECK.same("a change for nothing", x.merge(1), 0);
        CHECK.same("is a pair", Texts.formatOf(x), "0:*:1-1:2");
    }

    private static void optionalSlotsCostOne() {
        LineLearner x = Texts.withLines("a-", "a", "", "a");
        x.setCosts(2, 0, 4);
        x.merge(0);
        CHECK.same("skip for nothing", x.merge(1), 0);
        CHECK.same("an optional one costs 1", x.costWith(3), 1);
        CHECK.same("one of each", x.costWith(2), 1);
        CHECK.same("merge of the empty line", x.merge(2), 1);
        CHECK.same("both are optional", x.costWith(2), 2);
    }

    private static void mergeRefuses() {
        LineLearner x = Texts.withLines("a-1", "b", "");
        x.merge(0);
        x.merge(2);
        CHECK.refuses("merge(0) again", x, IllegalStateException.class, () -> x.merge(0));
        CHECK.refuses("merge of the empty line again", x, IllegalStateException.class, () -> x.merge(2));
        CHECK.refuses("merge(-1)", x, IndexOutOfBoundsException.class, () -> x.merge(-1));
        CHECK.refuses("merge(3)", x, IndexOutOfBoundsException.class, () -> x.merge(3));
        CHECK.same("merge(1) yet", x.merge(1), 4);
    }

    private static void mergeAtFortySlots() {
        LineLearner x = Texts.withLines(THIRTY_SIGNS, "a1a1a1a1a1a", "a1a1a1a1a1", "a1a1a1a1a1", "?");
        CHECK.same("merge of 30", x.merge(0), 120);
        CHECK.refuses("merge to 41", x, IllegalStateException.class, () -> x.merge(1));
        CHECK.same("not merged", x.isMerged(1), false);
        CHECK.same("cost of what can't be merged", x.costWith(1), 134);
        CHECK.same("merge to 40", x.merge(2), 130);
        CHECK.same("slotCount()", x.slotCount(), 40);
        CHECK.same("merge at 40", x.merge(3), 30);
        CHECK.same("merge of a changed sign", x.merge(4), 41);
        CHECK.refuses("merge to 41 later", x, IllegalStateException.class, () -> x.merge(1));
        CHECK.same("clear()", x.clear(), 4);
        CHECK.same("merge after clear", x.merge(1), 44);
    }

    private static void clearEmpties() {
        LineLearner x = Texts.withLines("a-1", "b-2", "");
        x.group(2);
        x.setCosts(2, 3, 5);
        x.merge(1);
        x.merge(0);
        x.group(2);
        CHECK.same("clear()", x.clear(), 2);
        CHECK.same("slotCount()", x.slotCount(), 0);
        CHECK.same("isMerged(0)", x.isMerged(0), false);
        CHECK.same("isMerged(1)", x.isMerged(1), false);
        CHECK.same("clear() again", x.clear(), 0);
        CHECK.same("lines stay", x.lineCount(), 3);
        CHECK.same("costs stay", x.setCosts(2, 3, 5), false);
        CHECK.same("merge again", x.merge(0), 15);
        CHECK.same("format", Texts.formatOf(x), "0:a:1-1:1 3:-:1-1:1 1:1:1-1:1");
        CHECK.same("tokenAt of a line that was merged", x.tokenAt(1, 0), -1);
        x.merge(2);
        CHECK.same("clear() counts the empty line", x.clear(), 2);
        LineLearner y = Texts.withLines("a");
        y.group(2);
        y.merge(0);
        y.clear();
        CHECK.same("grouping stays", y.groupOf(0), 0);
    }

    private static void costWithTells() {
        LineLearner x = Texts.withLines("a-1", "b-1", "b-1?", "", "1");
        CHECK.same("costWith of the empty format", x.costWith(0), 12);
        CHECK.same("costWith of nothing", x.costWith(3), 0);
        x.merge(0);
        CHECK.same("costWith(0), merged", x.costWith(0), 0);
        CHECK.same("costWith(1)", x.costWith(1), 2);
        CHECK.same("costWith(2)", x.costWith(2), 6);
        CHECK.same("costWith(3)", x.costWith(3), 9);
        CHECK.same("costWith(4)", x.costWith(4), 6);
        String before = Texts.wholeOf(x);
        x.costWith(2);
        CHECK.same("nothing is merged", Texts.wholeOf(x), before);
        x.merge(1);
        CHECK.same("costWith(0) of a changed format", x.costWith(0), 1);
    }

    private static void linesRefuse() {
        LineLearner x = Texts.withMerged("a-1", "b");
        int[] wrong = {-1, 2, 12, Integer.MAX_VALUE, Integer.MIN_VALUE};
        for (int line : wrong) {
            CHECK.refuses("merge(" + line + ")", x, IndexOutOfBoundsException.class, () -> x.merge(line));
            CHECK.refuses("isMerged(" + line + ")", x, IndexOutOfBoundsException.class, () -> x.isMerged(line));
            CHECK.refuses("costWith(" + line + ")", x, IndexOutOfBoundsException.class, () -> x.costWith(line));
        }
    }
}
