/** Edges of the chapters "Groups" and "Exceptions" and of promises 28 to 30. */
final class GroupEdges extends Edges {
    private static final String THIRTY = "-".repeat(30);

    static void run() {
        limits();
        choosing();
        formatsOfGroups();
        fullGroups();
        apart();
        kept();
        ended();
        group();
        groupOf();
        groupSlots();
        exceptions();
        allRefusals();
    }

    /** The groups of all lines, joined, then the slots of all groups. */
    private static void groups(LineLearner x, int limit, String due) {
        int count = x.group(limit);
        StringBuilder told = new StringBuilder();
        for (int line = 0; line < x.lineCount(); line++) {
            told.append(x.groupOf(line)).append(' ');
        }
        told.append('/');
        for (int group = 0; group < count; group++) {
            told.append(' ').append(x.groupSlots(group));
        }
        same("group(" + limit + ")", told.toString(), due);
    }

    private static void limits() {
        edge("Groups", "a line is merged into a group if the cost is the limit itself, not if it is one more", () -> {
            groups(Texts.withLines("a", "b"), 2, "0 0 / 1");
            groups(Texts.withLines("a", "b"), 1, "0 1 / 1 1");
            groups(Texts.withLines("a-1", ""), 9, "0 0 / 3");
            groups(Texts.withLines("a-1", ""), 8, "0 1 / 3 0");
        });
        edge("Groups", "with the limit 0 a line is merged into a group at no cost alone", () -> {
            groups(Texts.withLines("a", "a", "b", ""), 0, "0 0 1 2 / 1 1 0");
            LineLearner x = Texts.withLines("a", "b", "1");
            x.setCosts(0, 0, 0);
            groups(x, 0, "0 0 0 / 2");
        });
        edge("Groups", "with the limit 200 a cost of 200 is merged, one of 201 is not", () -> {
            LineLearner x = Texts.withLines("", "a1a1a1a1a1");
            x.setCosts(20, 20, 20);
            groups(x, 200, "0 0 / 10");
            groups(x, 199, "0 1 / 0 10");
            LineLearner y = Texts.withLines("", "-", "a1a1a1a1a1");
            y.setCosts(20, 20, 20);
            groups(y, 200, "0 0 1 / 1 10");
        });
        edge("Groups", "the first line makes group 0, also if it is empty or dear", () -> {
            groups(Texts.withLines(""), 0, "0 / 0");
            groups(Texts.withLines(THIRTY), 0, "0 / 30");
        });
    }

    private static void choosing() {
        edge("Groups", "the group with the least cost, also if it is a later one", () -> {
            groups(Texts.withLines("a-1", "x?2", "x?1"), 5, "0 1 1 / 3 3");
            groups(Texts.withLines("a", "1", "1"), 6, "0 1 1 / 1 1");
        });
        edge("Groups", "of several the earliest one", () -> {
            groups(Texts.withLines("a", "1", ""), 3, "0 1 0 / 1 1");
            groups(Texts.withLines("a-1", "b-2", "a-2"), 3, "0 1 0 / 3 3");
            groups(Texts.withLines("1", "a", " ", ""), 3, "0 1 2 0 / 1 1 1");
        });
        edge("Groups", "groups are numbered from 0, twelve at most", () -> {
            LineLearner x = new LineLearner();
            for (char one = 'a'; one < 'm'; one++) {
                Texts.store(x, "" + one);
            }
            groups(x, 1, "0 1 2 3 4 5 6 7 8 9 10 11 / 1 1 1 1 1 1 1 1 1 1 1 1");
        });
        edge("Groups", "in the order of their numbers: an earlier line decides about a later one", () -> {
            groups(Texts.withLines("a", "b", "c"), 2, "0 0 0 / 1");
            groups(Texts.withLines("a-", "a", ""), 4, "0 0 0 / 2");
            groups(Texts.withLines("a-", "", "a"), 4, "0 1 0 / 2 0");
        });
    }

    private static void formatsOfGroups() {
        edge("Groups", "a merged line makes the format of its group more general: no text, optional, FRESH slots", () -> {
            LineLearner x = Texts.withLines("a", "b", "c");
            x.setCosts(4, 20, 20);
            groups(x, 4, "0 0 0 / 1");
            groups(x, 3, "0 1 2 / 1 1 1");
            groups(Texts.withLines("a-", "a", ""), 4, "0 0 0 / 2");
            groups(Texts.withLines("a-", ""), 4, "0 1 / 2 0");
            groups(Texts.withLines("a", "a-", "a-"), 4, "0 0 0 / 2");
        });
        edge("Groups", "a group that was made for the empty line has no slots, and can get some", () ->
                groups(Texts.withLines("", "a", ""), 4, "0 0 0 / 1"));
        edge("Groups", "nothing of an earlier grouping is left in the formats", () -> {
            LineLearner x = Texts.withLines("a", "b", "1", "");
            groups(x, 200, "0 0 0 0 / 2");
            groups(x, 0, "0 1 2 3 / 1 1 1 0");
            groups(x, 200, "0 0 0 0 / 2");
            groups(x, 2, "0 0 1 2 / 1 1 0");
        });
        edge("Groups", "the costs are those that are set now", () -> {
            LineLearner x = Texts.withLines("a", "b");
            groups(x, 2, "0 0 / 1");
            x.setCosts(3, 3, 4);
            groups(x, 2, "0 1 / 1 1");
        });
    }

    private static void fullGroups() {
        edge("Groups", "a group whose format would get 40 slots is not left out", () ->
                groups(Texts.withLines(THIRTY, "a1a1a1a1a1"), 200, "0 0 / 40"));
        edge("Groups", "a group whose format would get 41 slots is left out: a new one is made", () ->
                groups(Texts.withLines(THIRTY, "a1a1a1a1a1a"), 200, "0 1 / 30 11"));
        edge("Groups", "a group with 40 slots takes lines that need no more", () -> {
            groups(Texts.withLines(THIRTY, "a1a1a1a1a1", "a1a1a1", "", "?"), 200, "0 0 0 0 0 / 40");
            groups(Texts.withLines(THIRTY, "a1a1a1a1a1", "a1a1a1a1a1a"), 200, "0 0 1 / 40 11");
        });
        edge("Groups", "if the nearest group is left out, a dearer one is taken, if the limit allows it", () -> {
            LineLearner x = Texts.withLines(THIRTY, "a1a1a1a1a1a", "-".repeat(19) + "b b b b b b");
            groups(x, 200, "0 1 1 / 30 35");
            groups(x, 122, "0 1 2 / 30 11 30");
        });
        edge("Groups", "of several with the least cost the earliest one that is not left out", () -> {
            LineLearner x = Texts.withLines(THIRTY, "a1a1a1a1a1a", "b b b b b b");
            x.setCosts(20, 0, 1);
            groups(x, 11, "0 1 1 / 30 22");
            groups(x, 10, "0 1 2 / 30 11 11");
        });
    }

    private static void apart() {
        edge("Groups", "apart from the format: a grouping merges no line and changes no slot", () -> {
            LineLearner x = Texts.withLines("a-1", "b-1", "?");
            x.merge(0);
            x.group(200);
            same("the format", Texts.formatOf(x), "0:a:1-1:1 3:-:1-1:1 1:1:1-1:1");
            same("the tokens", Texts.usersOf(x), "0,1,2 .,.,. .,.,.");
            same("isMerged(1)", x.isMerged(1), false);
            same("clear()", x.clear(), 1);
        });
        edge("Groups", "apart from the format: merged lines are grouped as others are", () -> {
            LineLearner x = Texts.withLines("a", "b", "1");
            x.merge(0);
            x.merge(1);
            groups(x, 0, "0 1 2 / 1 1 1");
            x.clear();
            groups(x, 0, "0 1 2 / 1 1 1");
        });
        edge("Groups", "apart from the format: a full format takes no room from a group", () -> {
            LineLearner x = full();
            groups(x, 0, "0 1 2 3 / 30 10 11 1");
        });
    }

    private static LineLearner grouped() {
        LineLearner x = Texts.withLines("a", "", "b");
        x.group(2);
        return x;
    }

    private static void isKept(LineLearner x) {
        same("groupOf(0)", x.groupOf(0), 0);
        same("groupOf(1)", x.groupOf(1), 1);
        same("groupOf(2)", x.groupOf(2), 0);
        same("groupSlots(0)", x.groupSlots(0), 1);
        same("groupSlots(1)", x.groupSlots(1), 0);
    }

    private static void kept() {
        edge("Groups", "the grouping is kept over feed, merge and clear", () -> {
            LineLearner x = grouped();
            x.feed(97L);
            isKept(x);
            x.merge(2);
            x.merge(1);
            isKept(x);
            x.clear();
            isKept(x);
        });
        edge("Groups", "the grouping is kept over calls that only ask", () -> {
            LineLearner x = grouped();
            x.strangest();
            x.costWith(2);
            x.fits(2);
            x.bits();
            x.saving();
            x.digest();
            isKept(x);
        });
        edge("Groups", "the grouping is kept over a store that throws", () -> {
            LineLearner x = twelve();
            x.group(0);
            throwsIt("store()", STATE, () -> x.store());
            same("groupOf(11)", x.groupOf(11), 3);
        });
        edge("Groups", "the grouping is kept over a setCosts that throws", () -> {
            LineLearner x = grouped();
            throwsIt("setCosts(2, 3, 21)", ARGUMENT, () -> x.setCosts(2, 3, 21));
            throwsIt("setCosts(-1, 3, 4)", ARGUMENT, () -> x.setCosts(-1, 3, 4));
            isKept(x);
        });
        edge("Groups", "the grouping is kept over a group, a feed and a merge that throw", () -> {
            LineLearner x = grouped();
            throwsIt("group(201)", ARGUMENT, () -> x.group(201));
            throwsIt("group(-1)", ARGUMENT, () -> x.group(-1));
            throwsIt("feed(31)", ARGUMENT, () -> x.feed(31L));
            throwsIt("merge(3)", INDEX, () -> x.merge(3));
            isKept(x);
        });
        edge("Groups", "the grouping that was made last is kept, not one before it", () -> {
            LineLearner x = grouped();
            x.group(0);
            same("groupOf(2)", x.groupOf(2), 2);
            x.group(2);
            isKept(x);
        });
    }

    private static void isEnded(LineLearner x) {
        throwsIt("groupOf(0)", STATE, () -> x.groupOf(0));
        throwsIt("groupSlots(0)", STATE, () -> x.groupSlots(0));
    }

    private static void ended() {
        edge("Groups", "the grouping is kept until the next store", () -> {
            LineLearner x = grouped();
            x.store();
            isEnded(x);
            groups(x, 2, "0 1 0 1 / 1 0");
        });
        edge("Groups", "the grouping is kept until the next setCosts", () -> {
            LineLearner x = grouped();
            x.setCosts(1, 1, 1);
            isEnded(x);
            groups(x, 0, "0 1 2 / 1 0 1");
        });
        edge("Groups", "the grouping is kept until the next setCosts, also if that changes no cost", () -> {
            LineLearner x = grouped();
            same("setCosts(2, 3, 4)", x.setCosts(2, 3, 4), false);
            isEnded(x);
        });
        edge("Groups", "the grouping ends with the twelfth store too", () -> {
            LineLearner x = Texts.withLines("", "", "", "", "", "", "", "", "", "", "");
            x.group(0);
            same("store()", x.store(), 11);
            isEnded(x);
        });
    }

    private static void group() {
        edge("Promise 28", "0 groups of no lines, 1 of one line, 12 at most", () -> {
            same("of no lines", new LineLearner().group(200), 0);
            same("of one line", Texts.withLines("a").group(0), 1);
            same("of twelve lines alike", twelve().group(200), 1);
            LineLearner x = new LineLearner();
            for (int line = 0; line < 12; line++) {
                Texts.store(x, "1".repeat(line + 1));
            }
            same("of twelve lines", x.group(1), 12);
        });
        edge("Promise 28", "the limits 0 and 200 are taken", () -> {
            same("group(0)", Texts.withLines("a", "b").group(0), 2);
            same("group(200)", Texts.withLines("a", "b").group(200), 1);
        });
        edge("Promise 28", "IllegalArgumentException if limit is not 0 to 200", () -> {
            refusedEach("group", ARGUMENT, Edges::rich, beside(201), (x, limit) -> x.group(limit));
            refusedEach("group", ARGUMENT, Edges::twelve, beside(201), (x, limit) -> x.group(limit));
            refusedEach("group", ARGUMENT, LineLearner::new, beside(201), (x, limit) -> x.group(limit));
        });
        edge("Promise 28", "a group that throws makes no grouping, and leaves the one that there is", () -> {
            LineLearner x = Texts.withLines("a", "", "b");
            throwsIt("group(201)", ARGUMENT, () -> x.group(201));
            isEnded(x);
            x.group(2);
            throwsIt("group(-1)", ARGUMENT, () -> x.group(-1));
            isKept(x);
        });
    }

    private static void groupOf() {
        edge("Promise 29", "the first and the twelfth line", () -> {
            LineLearner x = twelve();
            x.group(0);
            same("groupOf(0)", x.groupOf(0), 0);
            same("groupOf(11)", x.groupOf(11), 3);
        });
        edge("Promise 29", "IllegalStateException if there is no grouping", () -> {
            refused("groupOf(0) of lines", STATE, Edges::twelve, x -> x.groupOf(0));
            refused("groupOf(0) of no lines", STATE, LineLearner::new, x -> x.groupOf(0));
            refused("groupOf(0) after store", STATE, GroupEdges::stored, x -> x.groupOf(0));
        });
        edge("Promise 29", "IndexOutOfBoundsException if there is no such line", () -> {
            refusedEach("groupOf", INDEX, Edges::rich, beside(4), (x, line) -> x.groupOf(line));
            refusedEach("groupOf", INDEX, () -> groupedAt(twelve(), 0), beside(12), (x, line) -> x.groupOf(line));
            refusedEach("groupOf", INDEX, () -> groupedAt(new LineLearner(), 0), beside(0),
                    (x, line) -> x.groupOf(line));
        });
        edge("Promise 29", "of both exceptions IllegalStateException is thrown, which is named first", () -> {
            refusedEach("groupOf", STATE, GroupEdges::stored, beside(5), (x, line) -> x.groupOf(line));
            refusedEach("groupOf", STATE, LineLearner::new, beside(0), (x, line) -> x.groupOf(line));
        });
    }

    private static LineLearner stored() {
        LineLearner x = rich();
        x.store();
        return x;
    }

    private static LineLearner groupedAt(LineLearner x, int limit) {
        x.group(limit);
        return x;
    }

    private static void groupSlots() {
        edge("Promise 30", "0 slots for a group of empty lines, 40 at most", () -> {
            LineLearner x = groupedAt(Texts.withLines("", "", THIRTY, "a1a1a1a1a1"), 130);
            same("groupSlots(0)", x.groupSlots(0), 40);
            LineLearner y = groupedAt(Texts.withLines("", "", THIRTY), 119);
            same("groupSlots(0) of empty lines", y.groupSlots(0), 0);
            same("groupSlots(1)", y.groupSlots(1), 30);
        });
        edge("Promise 30", "the last of twelve groups", () -> {
            LineLearner x = new LineLearner();
            for (int line = 0; line < 12; line++) {
                Texts.store(x, "-1".repeat(line + 1));
            }
            x.group(0);
            same("groupSlots(11)", x.groupSlots(11), 24);
        });
        edge("Promise 30", "IllegalStateException if there is no grouping", () -> {
            refused("groupSlots(0) of lines", STATE, Edges::twelve, x -> x.groupSlots(0));
            refused("groupSlots(0) of no lines", STATE, LineLearner::new, x -> x.groupSlots(0));
            refused("groupSlots(0) after store", STATE, GroupEdges::stored, x -> x.groupSlots(0));
        });
        edge("Promise 30", "IndexOutOfBoundsException if there is no such group, also if there was one before", () -> {
            refusedEach("groupSlots", INDEX, () -> groupedAt(rich(), 200), beside(1), (x, g) -> x.groupSlots(g));
            refusedEach("groupSlots", INDEX, () -> groupedAt(groupedAt(rich(), 0), 200), wrong(1, 2, 3, 4),
                    (x, g) -> x.groupSlots(g));
            refusedEach("groupSlots", INDEX, () -> groupedAt(twelve(), 0), beside(4), (x, g) -> x.groupSlots(g));
            refusedEach("groupSlots", INDEX, () -> groupedAt(new LineLearner(), 0), beside(0),
                    (x, g) -> x.groupSlots(g));
        });
        edge("Promise 30", "of both exceptions IllegalStateException is thrown, which is named first", () -> {
            refusedEach("groupSlots", STATE, GroupEdges::stored, beside(12), (x, g) -> x.groupSlots(g));
            refusedEach("groupSlots", STATE, LineLearner::new, beside(0), (x, g) -> x.groupSlots(g));
        });
    }

    private static void exceptions() {
        edge("Exceptions", "of several that apply to feed the one that is named first", () -> {
            LineLearner x = new LineLearner();
            Texts.feed(x, THIRTY);
            throwsIt("feed of a wrong byte to a full buffer", ARGUMENT, () -> x.feed(127L));
            throwsIt("feed of a right byte to a full buffer", STATE, () -> x.feed(126L));
        });
        edge("Exceptions", "of several that apply to groupOf and groupSlots the one that is named first", () -> {
            LineLearner x = Texts.withLines("a");
            throwsIt("groupOf(1) without a grouping", STATE, () -> x.groupOf(1));
            throwsIt("groupSlots(1) without a grouping", STATE, () -> x.groupSlots(1));
            x.group(0);
            throwsIt("groupOf(1) with a grouping", INDEX, () -> x.groupOf(1));
            throwsIt("groupSlots(1) with a grouping", INDEX, () -> x.groupSlots(1));
        });
    }

    private static void allRefusals() {
        edge("Exceptions", "a method that throws changes nothing: all of them, one after the other", () -> {
            for (int view = 0; view < VIEWS; view++) {
                LineLearner x = refusing();
                LineLearner y = refusing();
                refuseAll(x);
                same("what is seen afterwards, " + view, seen(view, x), seen(view, y));
            }
        });
    }

    /** Twelve lines, so that store throws; three of them are merged; a full buffer, so that feed throws. */
    private static LineLearner refusing() {
        LineLearner x = Texts.withLines("ab-1", "b-22", "", "c", "d 1", "a", "a", "a", "-", "-1", "", "x");
        x.setCosts(1, 2, 3);
        x.merge(0);
        x.merge(2);
        x.merge(4);
        x.group(3);
        Texts.feed(x, "ab".repeat(15));
        return x;
    }

    private static void refuseAll(LineLearner x) {
        throwsIt("feed(97)", STATE, () -> x.feed(97L));
        throwsIt("feed(1)", ARGUMENT, () -> x.feed(1L));
        throwsIt("store()", STATE, () -> x.store());
        throwsIt("tokenCount(12)", INDEX, () -> x.tokenCount(12));
        throwsIt("tokenKind(2, 0)", INDEX, () -> x.tokenKind(2, 0));
        throwsIt("tokenStart(2, 0)", INDEX, () -> x.tokenStart(2, 0));
        throwsIt("sameAtFront(0, 12)", INDEX, () -> x.sameAtFront(0, 12));
        throwsIt("setCosts(0, 0, 21)", ARGUMENT, () -> x.setCosts(0, 0, 21));
        throwsIt("merge(12)", INDEX, () -> x.merge(12));
        throwsIt("merge(4)", STATE, () -> x.merge(4));
        throwsIt("isMerged(12)", INDEX, () -> x.isMerged(12));
        throwsIt("costWith(12)", INDEX, () -> x.costWith(12));
        throwsIt("fits(12)", INDEX, () -> x.fits(12));
        int none = x.slotCount();
        throwsIt("slotKind", INDEX, () -> x.slotKind(none));
        throwsIt("textByte", INDEX, () -> x.textByte(none, 0));
        throwsIt("sizeOf", INDEX, () -> x.sizeOf(none, true));
        throwsIt("uses", INDEX, () -> x.uses(none));
        throwsIt("isOptional", INDEX, () -> x.isOptional(none));
        throwsIt("tokenAt", INDEX, () -> x.tokenAt(0, none));
        throwsIt("numberAt", INDEX, () -> x.numberAt(0, none));
        throwsIt("distinct", INDEX, () -> x.distinct(none));
        throwsIt("isRising", INDEX, () -> x.isRising(none));
        throwsIt("group(201)", ARGUMENT, () -> x.group(201));
        throwsIt("groupOf(12)", INDEX, () -> x.groupOf(12));
        throwsIt("groupSlots(12)", INDEX, () -> x.groupSlots(12));
    }
}
