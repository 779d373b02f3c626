/** Brings texts into learners, and tells all that a learner answers. */
final class Texts {
    private Texts() {
    }

    /** The number whose bytes are the text, which has at most 8. */
    static long packed(String text) {
        long bytes = 0;
        for (int i = 0; i < text.length(); i++) {
            bytes = bytes << 8 | text.charAt(i);
        }
        return bytes;
    }

    static void feed(LineLearner x, String text) {
        for (int i = 0; i < text.length(); i += 8) {
            x.feed(packed(text.substring(i, Math.min(text.length(), i + 8))));
        }
    }

    static int store(LineLearner x, String text) {
        feed(x, text);
        return x.store();
    }

    static LineLearner withLines(String... texts) {
        LineLearner x = new LineLearner();
        for (String text : texts) {
            store(x, text);
        }
        return x;
    }

    static LineLearner withMerged(String... texts) {
        LineLearner x = withLines(texts);
        for (int line = 0; line < texts.length; line++) {
            x.merge(line);
        }
        return x;
    }

    /** The format as a text: a slot each, its text or "*", its sizes, its uses, "?" if it is optional. */
    static String formatOf(LineLearner x) {
        StringBuilder told = new StringBuilder();
        for (int slot = 0; slot < x.slotCount(); slot++) {
            told.append(slot == 0 ? "" : " ").append(x.slotKind(slot)).append(':').append(textOf(x, slot));
            told.append(':').append(x.sizeOf(slot, false)).append('-').append(x.sizeOf(slot, true));
            told.append(':').append(x.uses(slot)).append(x.isOptional(slot) ? "?" : "");
        }
        return told.toString();
    }

    static String textOf(LineLearner x, int slot) {
        if (x.textByte(slot, 0) == -1) {
            return "*";
        }
        StringBuilder text = new StringBuilder();
        for (int i = 0; i < x.sizeOf(slot, true); i++) {
            text.append((char) x.textByte(slot, i));
        }
        return text.toString();
    }

    /** All that can be asked without changing the learner. */
    static String stateOf(LineLearner x) {
        StringBuilder told = new StringBuilder();
        told.append(x.digest()).append(' ').append(x.feed(0L)).append(' ').append(x.lineCount());
        told.append(' ').append(formatOf(x)).append(' ').append(x.bits()).append(' ').append(x.saving());
        told.append(' ').append(x.strangest());
        for (int line = 0; line < x.lineCount(); line++) {
            told.append("\nline ").append(x.isMerged(line)).append(' ').append(x.costWith(line));
            told.append(' ').append(x.fits(line)).append(' ').append(groupOf(x, line));
            for (int token = 0; token < x.tokenCount(line); token++) {
                told.append(' ').append(x.tokenKind(line, token)).append('@').append(x.tokenStart(line, token));
            }
            for (int slot = 0; slot < x.slotCount(); slot++) {
                told.append(' ').append(x.tokenAt(line, slot)).append('=').append(x.numberAt(line, slot));
            }
        }
        for (int slot = 0; slot < x.slotCount(); slot++) {
            told.append("\nslot ").append(x.distinct(slot)).append(' ').append(x.isRising(slot));
        }
        for (int group = 0; group < x.lineCount(); group++) {
            told.append("\ngroup ").append(groupSlots(x, group));
        }
        return told.toString();
    }

    private static String groupOf(LineLearner x, int line) {
        try {
            return "" + x.groupOf(line);
        } catch (IllegalStateException e) {
            return "none";
        }
    }

    private static String groupSlots(LineLearner x, int group) {
        try {
            return "" + x.groupSlots(group);
        } catch (IllegalStateException | IndexOutOfBoundsException e) {
            return e.getClass().getSimpleName();
        }
    }
}
