/** Brings texts into learners, and tells what a learner answers; each view stays far below 512 calls. */
final class Texts {
    private Texts() {
    }

    /** The number whose bytes are the text, which has at most 8. */
    static long packed(String text) {
        long bytes = 0;
        for (int i = 0; i < text.length(); i++) {
            bytes = bytes << 8 | text.charAt(i);
        }
        return bytes;
    }

    static void feed(LineLearner x, String text) {
        for (int i = 0; i < text.length(); i += 8) {
            x.feed(packed(text.substring(i, Math.min(text.length(), i + 8))));
        }
    }

    static int store(LineLearner x, String text) {
        feed(x, text);
        return x.store();
    }

    static LineLearner withLines(String... texts) {
        LineLearner x = new LineLearner();
        for (String text : texts) {
            store(x, text);
        }
        return x;
    }

    static LineLearner withMerged(String... texts) {
        LineLearner x = withLines(texts);
        for (int line = 0; line < texts.length; line++) {
            x.merge(line);
        }
        return x;
    }

    /** The numbers of the checksum of a learner that has nothing but this line. */
    static int[] numbersOf(String text) {
        int size = text.length();
        int[] numbers = new int[size + 8];
        numbers[1] = 1;
        numbers[2] = size;
        for (int i = 0; i < size; i++) {
            numbers[i + 3] = text.charAt(i);
        }
        numbers[size + 3] = 2;
        numbers[size + 4] = 3;
        numbers[size + 5] = 4;
        return numbers;
    }

    static String thrownBy(Runnable call) {
        try {
            call.run();
        } catch (RuntimeException e) {
            return e.getClass().getName();
        }
        return "nothing";
    }

    /** The format as a text: a slot each, its text or "*", its sizes, its uses, "?" if it is optional. */
    static String formatOf(LineLearner x) {
        StringBuilder told = new StringBuilder();
        for (int slot = 0; slot < x.slotCount(); slot++) {
            told.append(slot == 0 ? "" : " ").append(x.slotKind(slot)).append(':').append(textOf(x, slot));
            told.append(':').append(x.sizeOf(slot, false)).append('-').append(x.sizeOf(slot, true));
            told.append(':').append(x.uses(slot)).append(x.isOptional(slot) ? "?" : "");
        }
        return told.toString();
    }

    static String textOf(LineLearner x, int slot) {
        if (x.textByte(slot, 0) == -1) {
            return "*";
        }
        StringBuilder text = new StringBuilder();
        int size = x.sizeOf(slot, true);
        for (int i = 0; i < size; i++) {
            text.append((char) x.textByte(slot, i));
        }
        return text.toString();
    }

    /** The tokens that have used the slots, a line each: "." for none. */
    static String usersOf(LineLearner x) {
        StringBuilder told = new StringBuilder();
        int slots = x.slotCount();
        for (int line = 0; line < x.lineCount(); line++) {
            told.append(line == 0 ? "" : " ");
            for (int slot = 0; slot < slots; slot++) {
                int token = x.tokenAt(line, slot);
                told.append(slot == 0 ? "" : ",").append(token < 0 ? "." : "" + token);
            }
        }
        return told.toString();
    }

    /** What belongs to no line and no slot alone, and the format. */
    static String wholeOf(LineLearner x) {
        return x.digest() + " " + x.feed(0L) + " " + x.lineCount() + " " + x.strangest() + " " + x.bits() + " "
                + x.saving() + " " + formatOf(x);
    }

    static String linesOf(LineLearner x) {
        StringBuilder told = new StringBuilder();
        for (int line = 0; line < x.lineCount(); line++) {
            told.append("\nline ").append(x.isMerged(line)).append(' ').append(x.costWith(line));
            told.append(' ').append(x.fits(line)).append(' ').append(groupOf(x, line));
            told.append(' ').append(groupSlots(x, line)).append(' ').append(x.sameAtFront(line, 0));
            int tokens = x.tokenCount(line);
            for (int token = 0; token < tokens; token++) {
                told.append(' ').append(x.tokenKind(line, token)).append('@').append(x.tokenStart(line, token));
            }
        }
        return told.toString();
    }

    static String slotsOf(LineLearner x) {
        StringBuilder told = new StringBuilder(usersOf(x));
        int slots = x.slotCount();
        for (int slot = 0; slot < slots; slot++) {
            told.append("\nslot ").append(x.distinct(slot)).append(' ').append(x.isRising(slot));
            if (x.slotKind(slot) == 1) {
                for (int line = 0; line < x.lineCount(); line++) {
                    told.append(' ').append(x.numberAt(line, slot));
                }
            }
        }
        return told.toString();
    }

    /** What later calls answer that change the learner, and what comes of them. */
    static String laterOf(LineLearner x) {
        StringBuilder told = new StringBuilder();
        for (int i = 0; i < 5; i++) {
            told.append(Texts.thrownBy(() -> x.feed(packed("zq 8-1")))).append(' ').append(x.feed(0L)).append(' ');
        }
        told.append(Texts.thrownBy(() -> x.store())).append(' ').append(x.lineCount()).append(' ').append(x.digest());
        for (int line = 0; line < x.lineCount(); line++) {
            int one = line;
            told.append(' ').append(Texts.thrownBy(() -> x.merge(one))).append(' ').append(x.digest());
        }
        told.append(' ').append(x.bits()).append(' ').append(x.group(6)).append(' ').append(x.digest());
        told.append(' ').append(x.clear()).append(' ').append(x.digest());
        if (x.lineCount() > 0) {
            told.append(' ').append(x.merge(x.lineCount() - 1)).append(' ').append(x.bits());
        }
        return told.append(' ').append(x.setCosts(2, 3, 4)).append(' ').append(x.digest()).toString();
    }

    private static String groupOf(LineLearner x, int line) {
        try {
            return "" + x.groupOf(line);
        } catch (IllegalStateException e) {
            return "none";
        }
    }

    private static String groupSlots(LineLearner x, int group) {
        try {
            return "" + x.groupSlots(group);
        } catch (IllegalStateException | IndexOutOfBoundsException e) {
            return e.getClass().getSimpleName();
        }
    }
}
