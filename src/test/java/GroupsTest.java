/** Promises 28 to 30. */
public final class GroupsTest {
    private static final Check CHECK = new Check("GroupsTest");
    private static final String THIRTY_SIGNS = "------------------------------";

    public static void main(String[] args) {
        groupsOfLimits();
        limitItselfIsEnough();
        leastCostWins();
        earliestWins();
        formatsBecomeGeneral();
        costsMatter();
        fullGroupsAreLeftOut();
        dearerGroupIsTaken();
        groupsStandApart();
        groupingIsKept();
        groupingOfNoLines();
        groupRefuses();
        answersRefuse();
        CHECK.finish();
    }

    /** The groups of all lines, joined, then the slots of all groups. */
    private static String grouping(LineLearner x, int limit) {
        int count = x.group(limit);
        StringBuilder told = new StringBuilder();
        for (int line = 0; line < x.lineCount(); line++) {
            told.append(x.groupOf(line)).append(' ');
        }
        told.append('/');
        for (int group = 0; group < count; group++) {
            told.append(' ').append(x.groupSlots(group));
        }
        return told.toString();
    }

    private static void groupsOfLimits() {
        LineLearner x = Texts.withLines("a-1", "b-1", "x y", "a-1", "", "c-2");
        CHECK.same("group(0)", grouping(x, 0), "0 1 2 0 3 4 / 3 3 3 0 3");
        CHECK.same("group(2)", grouping(x, 2), "0 0 1 0 2 3 / 3 3 0 3");
        CHECK.same("group(3)", grouping(x, 3), "0 0 1 0 2 0 / 3 3 0");
        CHECK.same("group(200)", grouping(x, 200), "0 0 0 0 0 0 / 5");
        CHECK.same("group(0) again", grouping(x, 0), "0 1 2 0 3 4 / 3 3 3 0 3");
        LineLearner y = new LineLearner();
        StringBuilder due = new StringBuilder();
        for (int line = 0; line < 12; line++) {
            Texts.store(y, "" + (char) ('a' + line));
            due.append(line).append(' ');
        }
        CHECK.same("twelve groups", grouping(y, 0), due + "/ 1 1 1 1 1 1 1 1 1 1 1 1");
    }

    private static void limitItselfIsEnough() {
        LineLearner x = Texts.withLines("a", "b");
        CHECK.same("group of the cost", x.group(2), 1);
        CHECK.same("group below the cost", x.group(1), 2);
        LineLearner y = Texts.withLines("", "a");
        CHECK.same("group(4)", grouping(y, 4), "0 0 / 1");
        CHECK.same("group(3)", grouping(y, 3), "0 1 / 0 1");
    }

    private static void leastCostWins() {
        LineLearner x = Texts.withLines("a", "1", "1-");
        CHECK.same("the later group is nearer", grouping(x, 6), "0 1 1 / 1 2");
        LineLearner y = Texts.withLines("a-1", "x?2", "x?1");
        CHECK.same("nearer by a change", grouping(y, 5), "0 1 1 / 3 3");
    }

    private static void earliestWins() {
        LineLearner x = Texts.withLines("a", "1", "");
        CHECK.same("the empty line", grouping(x, 3), "0 1 0 / 1 1");
        LineLearner y = Texts.withLines("a-1", "b-2", "a-2");
        CHECK.same("one change from both", grouping(y, 3), "0 1 0 / 3 3");
    }

    private static void formatsBecomeGeneral() {
        LineLearner x = Texts.withLines("a", "b", "c-");
        CHECK.same("a text was lost", grouping(x, 5), "0 0 0 / 2");
        LineLearner y = Texts.withLines("a-", "a", "");
        CHECK.same("a slot became optional", grouping(y, 4), "0 0 0 / 2");
        CHECK.same("at a limit below", grouping(y, 3), "0 0 1 / 2 0");
    }

    private static void costsMatter() {
        LineLearner x = Texts.withLines("a", "b", "");
        CHECK.same("at first", grouping(x, 3), "0 0 0 / 1");
        x.setCosts(4, 3, 4);
        CHECK.same("with a dear change", grouping(x, 3), "0 1 0 / 1 1");
        x.setCosts(8, 3, 4);
        CHECK.same("with skip and fresh", grouping(x, 7), "0 0 0 / 2");
    }

    private static void fullGroupsAreLeftOut() {
        LineLearner x = Texts.withLines(THIRTY_SIGNS, "a1a1a1a1a1");
        CHECK.same("40 slots", grouping(x, 200), "0 0 / 40");
        LineLearner y = Texts.withLines(THIRTY_SIGNS, "a1a1a1a1a1a", "a1a1a1a1a1", "-");
        CHECK.same("41 slots", grouping(y, 200), "0 1 1 1 / 30 12");
    }

    private static void dearerGroupIsTaken() {
        LineLearner x = Texts.withLines(THIRTY_SIGNS, "a1a1a1a1a1a", "-------------------b b b b b b");
        CHECK.same("the nearest one is full", grouping(x, 200), "0 1 1 / 30 35");
        CHECK.same("and the other one too far", grouping(x, 122), "0 1 2 / 30 11 30");
    }

    private static void groupsStandApart() {
        LineLearner x = Texts.withLines("a-1", "b-1", "?");
        x.merge(0);
        x.merge(2);
        String format = Texts.formatOf(x);
        String due = grouping(x, 2);
        CHECK.same("merged lines are grouped too", due, "0 0 1 / 3 1");
        CHECK.same("format", Texts.formatOf(x), format);
        CHECK.same("isMerged(1)", x.isMerged(1), false);
        CHECK.same("costWith(1)", x.costWith(1), Texts.withMerged("a-1", "?").costWith(0) + 2);
        CHECK.same("merge(1)", x.merge(1) > 0, true);
        CHECK.same("groups after merge", x.groupOf(1), 0);
        CHECK.same("slots after merge", x.groupSlots(1), 1);
    }

    private static void groupingIsKept() {
        LineLearner x = Texts.withLines("a", "b");
        x.group(0);
        x.merge(0);
        x.clear();
        x.feed(97L);
        CHECK.same("groupOf(1)", x.groupOf(1), 1);
        CHECK.refuses("group(201)", x, IllegalArgumentException.class, () -> x.group(201));
        CHECK.refuses("setCosts(1, 2, 21)", x, IllegalArgumentException.class, () -> x.setCosts(1, 2, 21));
        CHECK.same("groupOf(1) after refusals", x.groupOf(1), 1);
        x.store();
        CHECK.refuses("groupOf(0) after store", x, IllegalStateException.class, () -> x.groupOf(0));
        CHECK.refuses("groupSlots(0) after store", x, IllegalStateException.class, () -> x.groupSlots(0));
        x.group(0);
        CHECK.same("groupOf(2)", x.groupOf(2), 0);
        x.setCosts(1, 1, 1);
        CHECK.refuses("groupOf(0) after setCosts", x, IllegalStateException.class, () -> x.groupOf(0));
        CHECK.refuses("groupSlots(0) after setCosts", x, IllegalStateException.class, () -> x.groupSlots(0));
    }

    private static void groupingOfNoLines() {
        LineLearner x = new LineLearner();
        CHECK.same("group(0)", x.group(0), 0);
        CHECK.refuses("groupOf(0)", x, IndexOutOfBoundsException.class, () -> x.groupOf(0));
        CHECK.refuses("groupSlots(0)", x, IndexOutOfBoundsException.class, () -> x.groupSlots(0));
    }

    private static void groupRefuses() {
        LineLearner x = Texts.withLines("a", "b");
        int[] wrong = {-1, 201, Integer.MAX_VALUE, Integer.MIN_VALUE};
        for (int limit : wrong) {
            CHECK.refuses("group(" + limit + ")", x, IllegalArgumentException.class, () -> x.group(limit));
        }
        CHECK.refuses("groupOf(0)", x, IllegalStateException.class, () -> x.groupOf(0));
        x.group(0);
        for (int limit : wrong) {
            CHECK.refuses("group(" + limit + ") later", x, IllegalArgumentException.class, () -> x.group(limit));
        }
    }

    private static void answersRefuse() {
        LineLearner x = Texts.withLines("a", "b", "c");
        int[] wrong = {-1, 3, 12, Integer.MAX_VALUE, Integer.MIN_VALUE};
        for (int one : wrong) {
            CHECK.refuses("groupOf without", x, IllegalStateException.class, () -> x.groupOf(one));
            CHECK.refuses("groupSlots without", x, IllegalStateException.class, () -> x.groupSlots(one));
        }
        x.group(1);
        x.group(2);
        for (int one : wrong) {
            CHECK.refuses("groupOf(" + one + ")", x, IndexOutOfBoundsException.class, () -> x.groupOf(one));
            CHECK.refuses("groupSlots(" + one + ")", x, IndexOutOfBoundsException.class, () -> x.groupSlots(one));
        }
        CHECK.refuses("groupSlots(1)", x, IndexOutOfBoundsException.class, () -> x.groupSlots(1));
    }
}
