/** Edges of the chapters "Formats" (alignments and merging with it). */
final class AlignmentEdges extends Edges {
    static void run() {
        formats();
        optionalSlots();
        sizesOfSlots();
        nothingToAlign();
        pairs();
        pairCosts();
        skipCosts();
        freshCosts();
        leastSum();
        lastStepDecides();
        stepBeforeDecides();
        mergingTexts();
        mergingFreshSlots();
    }

    /** The cost of a merge, the format and the tokens that have used its slots. */
    private static void merges(LineLearner x, int line, int cost, String format, String users) {
        same("merge(" + line + ")", x.merge(line), cost);
        same("the format", Texts.formatOf(x), format);
        same("the tokens that have used the slots", Texts.usersOf(x), users);
    }

    private static LineLearner withCosts(int change, int skip, int fresh, String... texts) {
        LineLearner x = Texts.withLines(texts);
        x.setCosts(change, skip, fresh);
        return x;
    }

    private static void formats() {
        edge("Formats", "at most 40 slots: the 40th is taken, a 41st is not", () -> {
            LineLearner x = full();
            same("slotCount()", x.slotCount(), 40);
            same("slotKind(39)", x.slotKind(39), 3);
            same("tokenAt(0, 39)", x.tokenAt(0, 39), 29);
            throwsIt("merge of a line that needs a 41st", STATE, () -> x.merge(2));
            same("slotCount() after it", x.slotCount(), 40);
            same("merge of a line that needs none", x.merge(3), 39);
            same("slotCount() at last", x.slotCount(), 40);
        });
        edge("Formats", "slots are numbered from 0", () -> {
            LineLearner x = Texts.withMerged("a-1");
            same("slotKind(0)", x.slotKind(0), 0);
            same("slotKind(2)", x.slotKind(2), 1);
        });
        edge("Formats", "at first a format is empty", () -> {
            same("slotCount()", new LineLearner().slotCount(), 0);
            same("slotCount() with a line", Texts.withLines("a").slotCount(), 0);
        });
        edge("Formats", "a slot knows its tokens, also when others come in before and behind it", () -> {
            LineLearner x = Texts.withMerged("b", "-b?", "1-b? ");
            same("the tokens", Texts.usersOf(x), ".,.,0,.,. .,0,1,2,. 0,1,2,3,4");
        });
    }

    private static void optionalSlots() {
        edge("Formats", "no slot is optional while every merged line has used it", () -> {
            LineLearner x = Texts.withMerged("a-", "a-");
            same("isOptional(0)", x.isOptional(0), false);
            same("isOptional(1)", x.isOptional(1), false);
        });
        edge("Formats", "a slot is optional if one merged line has not used it, also if all later ones do", () -> {
            LineLearner x = Texts.withMerged("a-", "a", "a-", "a-");
            same("isOptional(0)", x.isOptional(0), false);
            same("isOptional(1)", x.isOptional(1), true);
        });
        edge("Formats", "a FRESH slot is optional at once if a line was merged before", () -> {
            LineLearner x = Texts.withMerged("a", "a-");
            same("isOptional(0)", x.isOptional(0), false);
            same("isOptional(1)", x.isOptional(1), true);
            same("isOptional of a FRESH slot after the empty line", Texts.withMerged("", "a").isOptional(0), true);
        });
        edge("Formats", "the empty line makes all slots optional", () -> {
            LineLearner x = Texts.withMerged("a-", "");
            same("isOptional(0)", x.isOptional(0), true);
            same("isOptional(1)", x.isOptional(1), true);
        });
        edge("Formats", "a line that is not merged makes no slot optional", () -> {
            LineLearner x = Texts.withLines("a-", "a", "");
            x.merge(0);
            same("isOptional(1)", x.isOptional(1), false);
            x.merge(2);
            x.clear();
            x.merge(0);
            same("isOptional(1) after clear", x.isOptional(1), false);
        });
    }

    private static void sizesOfSlots() {
        edge("Formats", "with one token the least and the greatest size are its size, 1 or 30", () -> {
            LineLearner x = Texts.withMerged("a");
            same("least", x.sizeOf(0, false), 1);
            same("greatest", x.sizeOf(0, true), 1);
            LineLearner y = Texts.withMerged("a".repeat(30));
            same("least of 30", y.sizeOf(0, false), 30);
            same("greatest of 30", y.sizeOf(0, true), 30);
        });
        edge("Formats", "a token between the sizes changes neither", () -> {
            LineLearner x = Texts.withMerged("aa", "aaaa", "aaa");
            same("least", x.sizeOf(0, false), 2);
            same("greatest", x.sizeOf(0, true), 4);
        });
        edge("Formats", "a shorter token lowers the least, a longer one raises the greatest size", () -> {
            same("shorter", Texts.formatOf(Texts.withMerged("aa", "a")), "0:*:1-2:2");
            same("longer", Texts.formatOf(Texts.withMerged("aa", "a".repeat(30))), "0:*:2-30:2");
        });
        edge("Formats", "a line that has not used a slot does not count for its sizes", () -> {
            LineLearner x = Texts.withMerged("aa-", "-");
            same("least", x.sizeOf(0, false), 2);
            same("greatest", x.sizeOf(0, true), 2);
        });
    }

    private static void nothingToAlign() {
        edge("Alignments", "the empty line and the empty format have no steps", () -> {
            LineLearner x = withCosts(20, 20, 20, "");
            merges(x, 0, 0, "", "");
        });
        edge("Alignments", "the empty line has only SKIPs", () -> {
            LineLearner x = withCosts(20, 7, 20, "a-1", "");
            x.merge(0);
            merges(x, 1, 21, "0:a:1-1:1? 3:-:1-1:1? 1:1:1-1:1?", "0,1,2 .,.,.");
        });
        edge("Alignments", "the empty format has only FRESH slots", () -> {
            LineLearner x = withCosts(20, 20, 7, "a-1");
            merges(x, 0, 21, "0:a:1-1:1 3:-:1-1:1 1:1:1-1:1", "0,1,2");
        });
        edge("Alignments", "to the ends of both: what is left over of either is paid for", () -> {
            LineLearner x = Texts.withLines("a-1", "a", "a-1 b");
            x.merge(0);
            same("slots left over", x.costWith(1), 6);
            same("tokens left over", x.costWith(2), 8);
        });
    }

    private static void pairs() {
        edge("Alignments", "a PAIR must have the same kind, however dear SKIP and FRESH are", () -> {
            String[] four = {"a", "1", " ", "-"};
            for (String slot : four) {
                for (String token : four) {
                    LineLearner x = withCosts(0, 20, 20, slot, token);
                    x.merge(0);
                    same("'" + token + "' with '" + slot + "'", x.costWith(1), slot.equals(token) ? 0 : 40);
                }
            }
        });
        edge("Alignments", "a PAIR must have the same kind: a token goes to the slot of its kind before the last one", () -> {
            for (int skip = 0; skip <= 4; skip++) {
                LineLearner x = withCosts(2, skip, 4, "a-", "a", "a");
                x.merge(0);
                x.merge(1);
                merges(x, 2, 1, "0:a:1-1:3 3:-:1-1:1?", "0,1 0,. 0,.");
            }
        });
        edge("Alignments", "a PAIR must have the same kind, also if the slot has no text", () -> {
            LineLearner x = withCosts(20, 20, 20, "a", "b", "1");
            x.merge(0);
            x.merge(1);
            same("costWith(2)", x.costWith(2), 40);
        });
    }

    private static void pairCosts() {
        edge("Alignments", "a PAIR costs 0 if the token is the text of the slot, whatever the costs", () -> {
            LineLearner x = withCosts(20, 20, 20, "ab 1-", "ab 1-");
            x.merge(0);
            same("costWith(1)", x.costWith(1), 0);
        });
        edge("Alignments", "a PAIR costs 1 if the slot has no text, also if change is 0 or 20", () -> {
            LineLearner x = Texts.withMerged("a", "b");
            x.setCosts(0, 20, 20);
            same("with change 0", x.costWith(0), 1);
            x.setCosts(20, 20, 20);
            same("with change 20", x.costWith(0), 1);
        });
        edge("Alignments", "a PAIR costs change if the slot has another text: 2 at first, 0, 20", () -> {
            LineLearner x = Texts.withLines("ab", "ac");
            x.merge(0);
            same("at first", x.costWith(1), 2);
            x.setCosts(0, 20, 20);
            same("of 0", x.costWith(1), 0);
            x.setCosts(20, 20, 20);
            same("of 20", x.costWith(1), 20);
        });
        edge("Alignments", "another text is one of another size, letter case, or last byte too", () -> {
            LineLearner x = Texts.withLines("ab", "a", "abb", "aB", "ac");
            x.merge(0);
            for (int line = 1; line < 5; line++) {
                same("costWith(" + line + ")", x.costWith(line), 2);
            }
        });
    }

    private static void skipCosts() {
        edge("Alignments", "a SKIP costs skip if the slot is not optional: 3 at first, 0, 20", () -> {
            LineLearner x = Texts.withLines("a", "");
            x.merge(0);
            same("at first", x.costWith(1), 3);
            x.setCosts(2, 0, 4);
            same("of 0", x.costWith(1), 0);
            x.setCosts(2, 20, 4);
            same("of 20", x.costWith(1), 20);
        });
        edge("Alignments", "a SKIP costs 1 if the slot is optional, also if skip is 0 or 20", () -> {
            LineLearner x = Texts.withMerged("a", "");
            same("at first", x.costWith(1), 1);
            x.setCosts(2, 0, 4);
            same("with skip 0", x.costWith(1), 1);
            x.setCosts(2, 20, 4);
            same("with skip 20", x.costWith(1), 1);
        });
        edge("Alignments", "a slot of a merged line is not optional while that line itself is aligned", () -> {
            LineLearner x = Texts.withLines("a-", "a");
            x.merge(0);
            same("merge(1)", x.merge(1), 3);
            same("costWith(1) then", x.costWith(1), 1);
        });
    }

    private static void freshCosts() {
        edge("Alignments", "a FRESH slot costs fresh: 4 at first, 0, 20", () -> {
            LineLearner x = Texts.withLines("a");
            same("at first", x.costWith(0), 4);
            x.setCosts(2, 3, 0);
            same("of 0", x.costWith(0), 0);
            x.setCosts(2, 3, 20);
            same("of 20", x.costWith(0), 20);
        });
        edge("Alignments", "the greatest costs of all are summed up", () -> {
            LineLearner x = withCosts(20, 20, 20, "a1".repeat(15), "-".repeat(30));
            same("30 FRESH slots", x.costWith(1), 600);
            x.merge(0);
            same("30 SKIPs and 30 FRESH slots", x.costWith(1), 1200);
        });
    }

    private static void leastSum() {
        edge("Alignments", "the least sum is meant: a PAIR is left for a SKIP and a FRESH slot that cost less", () -> {
            LineLearner x = withCosts(8, 3, 4, "a", "b");
            x.merge(0);
            merges(x, 1, 7, "0:b:1-1:1? 0:a:1-1:1?", ".,0 0,.");
            LineLearner y = withCosts(6, 3, 4, "a", "b");
            y.merge(0);
            merges(y, 1, 6, "0:*:1-1:2", "0 0");
        });
        edge("Alignments", "the least sum is meant: a cheap step first can make the sum dearer", () -> {
            LineLearner x = withCosts(2, 3, 4, "a-b", "b");
            x.merge(0);
            merges(x, 1, 6, "0:a:1-1:1? 3:-:1-1:1? 0:b:1-1:2", "0,1,2 .,.,0");
            LineLearner y = withCosts(2, 3, 4, "b-a", "b");
            y.merge(0);
            merges(y, 1, 6, "0:b:1-1:2 3:-:1-1:1? 0:a:1-1:1?", "0,1,2 0,.,.");
        });
        edge("Alignments", "all costs 0: the last steps decide alone, first PAIRs, then SKIPs, then FRESH slots", () -> {
            LineLearner x = withCosts(0, 0, 0, "a-b", "c1d");
            x.merge(0);
            merges(x, 1, 0, "0:c:1-1:1? 1:1:1-1:1? 0:a:1-1:1? 3:-:1-1:1? 0:*:1-1:2", ".,.,0,1,2 0,1,.,.,2");
        });
    }

    private static void lastStepDecides() {
        edge("Alignments", "of several, a PAIR as the last step comes before a SKIP and before a FRESH slot", () -> {
            LineLearner x = withCosts(7, 3, 4, "a", "b");
            x.merge(0);
            merges(x, 1, 7, "0:*:1-1:2", "0 0");
        });
        edge("Alignments", "of several, a PAIR as the last step comes before a SKIP", () -> {
            LineLearner x = Texts.withLines("--", "-");
            x.merge(0);
            merges(x, 1, 3, "3:-:1-1:1? 3:-:1-1:2", "0,1 .,0");
        });
        edge("Alignments", "of several, a PAIR as the last step comes before a FRESH slot", () -> {
            LineLearner x = Texts.withLines("-", "--");
            x.merge(0);
            merges(x, 1, 4, "3:-:1-1:1? 3:-:1-1:2", ".,0 0,1");
        });
        edge("Alignments", "of several, a SKIP as the last step comes before a FRESH slot", () -> {
            LineLearner x = Texts.withLines("a", "1");
            x.merge(0);
            merges(x, 1, 7, "1:1:1-1:1? 0:a:1-1:1?", ".,0 0,.");
        });
        edge("Alignments", "a last step that costs more in sum does not come first", () -> {
            LineLearner x = withCosts(5, 2, 2, "-a", "-b");
            x.merge(0);
            merges(x, 1, 4, "3:-:1-1:2 0:b:1-1:1? 0:a:1-1:1?", "0,.,1 0,1,.");
            LineLearner y = Texts.withLines("a", "a-");
            y.merge(0);
            merges(y, 1, 4, "0:a:1-1:2 3:-:1-1:1?", "0,. 0,1");
        });
    }

    private static void stepBeforeDecides() {
        edge("Alignments", "if the last step is the same, the one before it decides: PAIR before SKIP", () -> {
            LineLearner x = Texts.withLines("---1", "-1");
            x.merge(0);
            merges(x, 1, 6, "3:-:1-1:1? 3:-:1-1:1? 3:-:1-1:2 1:1:1-1:2", "0,1,2,3 .,.,0,1");
        });
        edge("Alignments", "if the last step is the same, the one before it decides: PAIR before FRESH", () -> {
            LineLearner x = Texts.withLines("-1", "--1");
            x.merge(0);
            merges(x, 1, 4, "3:-:1-1:1? 3:-:1-1:2 1:1:1-1:2", ".,0,1 0,1,2");
            LineLearner y = withCosts(7, 3, 4, "a-", "b-");
            y.merge(0);
            merges(y, 1, 7, "0:*:1-1:2 3:-:1-1:2", "0,1 0,1");
        });
        edge("Alignments", "if the last step is the same, the one before it decides: SKIP before FRESH", () -> {
            LineLearner x = Texts.withLines("a-", "1-");
            x.merge(0);
            merges(x, 1, 7, "1:1:1-1:1? 0:a:1-1:1? 3:-:1-1:2", ".,0,1 0,.,1");
        });
        edge("Alignments", "and so on: the third and the fourth step from the end decide too", () -> {
            LineLearner x = Texts.withLines("a? ", "1? ");
            x.merge(0);
            merges(x, 1, 7, "1:1:1-1:1? 0:a:1-1:1? 3:?:1-1:2 2: :1-1:2", ".,0,1,2 0,.,1,2");
            LineLearner y = Texts.withLines("--? 1", "-? 1");
            y.merge(0);
            merges(y, 1, 3, "3:-:1-1:1? 3:-:1-1:2 3:?:1-1:2 2: :1-1:2 1:1:1-1:2", "0,1,2,3,4 .,0,1,2,3");
            LineLearner z = Texts.withLines("ab", "1-2");
            z.merge(0);
            merges(z, 1, 15, "1:1:1-1:1? 3:-:1-1:1? 1:2:1-1:1? 0:ab:2-2:1?", ".,.,.,0 0,1,2,.");
        });
        edge("Alignments", "the steps are decided from the last one on, not from the first one", () -> {
            LineLearner x = Texts.withLines("-1-", "-");
            x.merge(0);
            merges(x, 1, 6, "3:-:1-1:1? 1:1:1-1:1? 3:-:1-1:2", "0,1,2 .,.,0");
            LineLearner y = Texts.withLines("-", "-1-");
            y.merge(0);
            merges(y, 1, 8, "3:-:1-1:1? 1:1:1-1:1? 3:-:1-1:2", ".,.,0 0,1,2");
        });
    }

    private static void mergingTexts() {
        edge("Merging", "a slot with another text than its token's has none from then on, also if the first one comes again",
                () -> {
            LineLearner x = Texts.withLines("ab", "ac", "ab", "ab");
            x.merge(0);
            merges(x, 1, 2, "0:*:2-2:2", "0 0 . .");
            merges(x, 2, 1, "0:*:2-2:3", "0 0 0 .");
            merges(x, 3, 1, "0:*:2-2:4", "0 0 0 0");
        });
        edge("Merging", "a slot with the same text keeps it", () -> {
            LineLearner x = Texts.withLines("ab", "ab");
            x.merge(0);
            merges(x, 1, 0, "0:ab:2-2:2", "0 0");
        });
        edge("Merging", "a slot of a SKIP keeps its text", () -> {
            LineLearner x = Texts.withLines("ab-", "-");
            x.merge(0);
            merges(x, 1, 3, "0:ab:2-2:1? 3:-:1-1:2", "0,1 .,0");
        });
        edge("Merging", "a change that costs 0 takes the text away too", () -> {
            LineLearner x = withCosts(0, 3, 4, "ab", "ac");
            x.merge(0);
            merges(x, 1, 0, "0:*:2-2:2", "0 0");
        });
    }

    private static void mergingFreshSlots() {
        edge("Merging", "FRESH slots come in at their places: in front, between and behind", () -> {
            LineLearner x = Texts.withLines("a-", "1a ?-2");
            x.setCosts(20, 20, 20);
            x.merge(0);
            merges(x, 1, 80, "1:1:1-1:1? 0:a:1-1:2 2: :1-1:1? 3:?:1-1:1? 3:-:1-1:2 1:2:1-1:1?",
                    ".,0,.,.,1,. 0,1,2,3,4,5");
        });
        edge("Merging", "FRESH slots have the kind and the text of their tokens, which have used them", () -> {
            LineLearner x = Texts.withLines("", "ab 12-");
            x.merge(0);
            merges(x, 1, 16, "0:ab:2-2:1? 2: :1-1:1? 1:12:2-2:1? 3:-:1-1:1?", ".,.,.,. 0,1,2,3");
        });
        edge("Merging", "FRESH slots of three lines at the same place", () -> {
            LineLearner x = Texts.withLines("a", "a-", "a1");
            x.setCosts(2, 3, 1);
            x.merge(0);
            x.merge(1);
            merges(x, 2, 2, "0:a:1-1:3 1:1:1-1:1? 3:-:1-1:1?", "0,.,. 0,.,1 0,1,.");
        });
    }
}
