/** A learner of formats for lines of text. */
public final class LineLearner {
    private static final int MOST_LINES = 12;
    private static final int MOST_BYTES = 30;
    private static final int MOST_SLOTS = 40;
    private static final int MOST_STEPS = MOST_SLOTS + MOST_BYTES;
    private static final int MOST_COST = 20;
    private static final int MOST_LIMIT = 200;
    private static final int MOST_DIGITS = 9;

    private static final int WORD = 0;
    private static final int NUMBER = 1;
    private static final int SPACE = 2;
    private static final int SIGN = 3;

    private static final int PAIR = 0;
    private static final int SKIP = 1;
    private static final int FRESH = 2;

    private static final int NONE = -1;

    /** By kind: what a byte of a token costs that has used a slot without a text. */
    private static final int[] BITS_A_BYTE = {5, 4, 1, 7};

    private final byte[] buffer = new byte[MOST_BYTES];
    private int buffered;

    private final Lines lines = new Lines();
    private final Aligner aligner = new Aligner(lines);

    private final Format format = new Format();
    private final boolean[] merged = new boolean[MOST_LINES];
    /** By token: the slot of the format that it has used; of merged lines only. */
    private final int[] usedSlots = new int[MOST_LINES * MOST_BYTES];

    private boolean isGrouped;
    private int groupCount;
    private final int[] groupsOfLines = new int[MOST_LINES];
    private final Format[] groupFormats = new Format[MOST_LINES];

    public LineLearner() {
        for (int i = 0; i < MOST_LINES; i++) {
            groupFormats[i] = new Format();
        }
    }

    // ---- lines

    public int feed(long bytes) throws IllegalArgumentException, IllegalStateException {
        int size = countBytes(bytes);
        if (size == NONE) {
            throw new IllegalArgumentException("a byte is not 0 or 32 to 126");
        }
        if (buffered + size > MOST_BYTES) {
            throw new IllegalStateException("the buffer would get more than 30 bytes");
        }
        for (int i = 0; i < 8; i++) {
            int one = byteOf(bytes, i);
            if (one != 0) {
                buffer[buffered] = (byte) one;
                buffered++;
            }
        }
        return buffered;
    }

    /** The number of bytes that are not 0, or NONE if one of them can't stand in a line. */
    private static int countBytes(long bytes) {
        int size = 0;
        for (int i = 0; i < 8; i++) {
            int one = byteOf(bytes, i);
            if (one != 0) {
                if (one < 32 || one > 126) {
                    return NONE;
                }
                size++;
            }
        }
        return size;
    }

    private static int byteOf(long bytes, int fromHighest) {
        return (int) (bytes >>> (56 - 8 * fromHighest)) & 255;
    }

    public int store() throws IllegalStateException {
        if (lines.count >= MOST_LINES) {
            throw new IllegalStateException("there are 12 lines");
        }
        int line = lines.add(buffer, buffered);
        buffered = 0;
        isGrouped = false;
        return line;
    }

    public int lineCount() {
        return lines.count;
    }

    public int tokenCount(int line) throws IndexOutOfBoundsException {
        needLine(line);
        return lines.tokenCounts[line];
    }

    public int tokenKind(int line, int token) throws IndexOutOfBoundsException {
        needToken(line, token);
        return lines.kinds[placeOf(line, token)];
    }

    public int tokenStart(int line, int token) throws IndexOutOfBoundsException {
        needToken(line, token);
        return lines.starts[placeOf(line, token)] - firstByteOf(line);
    }

    public int sameAtFront(int a, int b) throws IndexOutOfBoundsException {
        needLine(a);
        needLine(b);
        int most = Math.min(lines.tokenCounts[a], lines.tokenCounts[b]);
        int same = 0;
        while (same < most && lines.texts[placeOf(a, same)] == lines.texts[placeOf(b, same)]) {
            same++;
        }
        return same;
    }

    // ---- the format

    public boolean setCosts(int change, int skip, int fresh) throws IllegalArgumentException {
        if (!isCost(change) || !isCost(skip) || !isCost(fresh)) {
            throw new IllegalArgumentException("a cost is not 0 to 20");
        }
        isGrouped = false;
        return aligner.takeCosts(change, skip, fresh);
    }

    private static boolean isCost(int cost) {
        return cost >= 0 && cost <= MOST_COST;
    }

    public int merge(int line) throws IndexOutOfBoundsException, IllegalStateException {
        needLine(line);
        if (merged[line]) {
            throw new IllegalStateException("the line is merged already");
        }
        int cost = aligner.align(format, line);
        if (!aligner.hasRoom(format)) {
            throw new IllegalStateException("the format would have more than 40 slots");
        }
        aligner.join(format, line);
        int tokens = lines.tokenCounts[line];
        for (int t = 0; t < tokens; t++) {
            usedSlots[placeOf(line, t)] = aligner.slotsOfTokens[t];
        }
        merged[line] = true;
        return cost;
    }

    public int clear() {
        int before = format.joinedLines;
        format.makeEmpty();
        for (int i = 0; i < MOST_LINES; i++) {
            merged[i] = false;
        }
        return before;
    }

    public boolean isMerged(int line) throws IndexOutOfBoundsException {
        needLine(line);
        return merged[line];
    }

    public int costWith(int line) throws IndexOutOfBoundsException {
        needLine(line);
        return aligner.leastCost(format, line);
    }

    public boolean fits(int line) throws IndexOutOfBoundsException {
        needLine(line);
        return aligner.isMatch(format, line);
    }

    public int strangest() {
        int found = NONE;
        int greatest = NONE;
        for (int line = 0; line < lines.count; line++) {
            int cost = aligner.leastCost(format, line);
            if (cost > greatest) {
                greatest = cost;
                found = line;
            }
        }
        return found;
    }

    public int slotCount() {
        return format.size;
    }

    public int slotKind(int slot) throws IndexOutOfBoundsException {
        return format.kinds[neededSlot(slot)];
    }

    public int textByte(int slot, int index) throws IndexOutOfBoundsException {
        int text = format.texts[neededSlot(slot)];
        if (text == NONE) {
            return NONE;
        }
        if (index < 0 || index >= lines.tokenSizes[text]) {
            throw new IndexOutOfBoundsException("there is no such index in the text");
        }
        return lines.bytes[lines.starts[text] + index];
    }

    public int sizeOf(int slot, boolean isGreatest) throws IndexOutOfBoundsException {
        int id = neededSlot(slot);
        return isGreatest ? format.greatest[id] : format.least[id];
    }

    public int uses(int slot) throws IndexOutOfBoundsException {
        return format.useCounts[neededSlot(slot)];
    }

    public boolean isOptional(int slot) throws IndexOutOfBoundsException {
        return format.canMiss(neededSlot(slot));
    }

    public int tokenAt(int line, int slot) throws IndexOutOfBoundsException {
        needLine(line);
        return tokenIn(line, neededSlot(slot));
    }

    public int numberAt(int line, int slot) throws IndexOutOfBoundsException {
        needLine(line);
        return numberIn(line, neededSlot(slot));
    }

    public int distinct(int slot) throws IndexOutOfBoundsException {
        int id = neededSlot(slot);
        int found = 0;
        for (int line = 0; line < lines.count; line++) {
            int text = textIn(line, id);
            if (text != NONE && !isTextBefore(line, id, text)) {
                found++;
            }
        }
        return found;
    }

    private boolean isTextBefore(int line, int id, int text) {
        for (int before = 0; before < line; before++) {
            if (textIn(before, id) == text) {
                return true;
            }
        }
        return false;
    }

    public boolean isRising(int slot) throws IndexOutOfBoundsException {
        int id = neededSlot(slot);
        if (format.kinds[id] != NUMBER || format.useCounts[id] < 2) {
            return false;
        }
        int last = NONE;
        for (int line = 0; line < lines.count; line++) {
            if (tokenIn(line, id) != NONE) {
                int number = numberIn(line, id);
                if (number <= last) {
                    return false;
                }
                last = number;
            }
        }
        return true;
    }

    public int bits() {
        int sum = 0;
        for (int slot = 0; slot < format.size; slot++) {
            int id = format.order[slot];
            sum += 4 + 8 * Math.max(0, textSize(id));
            if (format.canMiss(id)) {
                sum += format.joinedLines;
            }
        }
        for (int line = 0; line < lines.count; line++) {
            if (merged[line]) {
                sum += bitsOfVarying(line);
            }
        }
        return sum;
    }

    /** The bits of those tokens of a merged line that have used slots without a text. */
    private int bitsOfVarying(int line) {
        int sum = 0;
        int tokens = lines.tokenCounts[line];
        for (int t = 0; t < tokens; t++) {
            int place = placeOf(line, t);
            if (format.texts[usedSlots[place]] == NONE) {
                sum += 1 + BITS_A_BYTE[lines.kinds[place]] * lines.tokenSizes[place];
            }
        }
        return sum;
    }

    public double saving() {
        int own = 0;
        for (int line = 0; line < lines.count; line++) {
            if (merged[line]) {
                own += 8 + 8 * lines.sizes[line];
            }
        }
        if (own == 0) {
            return 0.0;
        }
        return 1.0 - (double) bits() / (double) own;
    }

    // ---- groups

    public int group(int limit) throws IllegalArgumentException {
        if (limit < 0 || limit > MOST_LIMIT) {
            throw new IllegalArgumentException("the limit is not 0 to 200");
        }
        groupCount = 0;
        for (int line = 0; line < lines.count; line++) {
            int chosen = nearestGroup(line, limit);
            if (chosen == NONE) {
                chosen = groupCount;
                groupFormats[chosen].makeEmpty();
                groupCount++;
            }
            aligner.align(groupFormats[chosen], line);
            aligner.join(groupFormats[chosen], line);
            groupsOfLines[line] = chosen;
        }
        isGrouped = true;
        return groupCount;
    }

    private int nearestGroup(int line, int limit) {
        int found = NONE;
        int least = limit + 1;
        for (int g = 0; g < groupCount; g++) {
            int cost = aligner.align(groupFormats[g], line);
            if (cost < least && aligner.hasRoom(groupFormats[g])) {
                least = cost;
                found = g;
            }
        }
        return found;
    }

    public int groupOf(int line) throws IllegalStateException, IndexOutOfBoundsException {
        needGrouping();
        needLine(line);
        return groupsOfLines[line];
    }

    public int groupSlots(int group) throws IllegalStateException, IndexOutOfBoundsException {
        needGrouping();
        if (group < 0 || group >= groupCount) {
            throw new IndexOutOfBoundsException("there is no such group");
        }
        return groupFormats[group].size;
    }

    public long digest() {
        long d = mixed(149L, buffered);
        d = addLines(d);
        d = mixed(mixed(mixed(d, aligner.change), aligner.skip), aligner.fresh);
        d = addSlots(d);
        d = mixed(d, format.joinedLines);
        if (isGrouped) {
            for (int line = 0; line < lines.count; line++) {
                d = mixed(d, groupsOfLines[line]);
            }
        }
        return d;
    }

    private static long mixed(long d, int x) {
        return d * 31L + x;
    }

    private long addLines(long start) {
        long d = mixed(start, lines.count);
        for (int line = 0; line < lines.count; line++) {
            int size = lines.sizes[line];
            d = mixed(d, size);
            for (int i = 0; i < size; i++) {
                d = mixed(d, lines.bytes[firstByteOf(line) + i]);
            }
        }
        return d;
    }

    private long addSlots(long start) {
        long d = mixed(start, format.size);
        for (int slot = 0; slot < format.size; slot++) {
            int id = format.order[slot];
            d = mixed(d, format.kinds[id]);
            d = mixed(d, format.least[id]);
            d = mixed(d, format.greatest[id]);
            d = mixed(d, format.useCounts[id]);
            d = mixed(d, textSize(id));
        }
        return d;
    }

    // ---- what the methods above share

    private void needLine(int line) throws IndexOutOfBoundsException {
        if (line < 0 || line >= lines.count) {
            throw new IndexOutOfBoundsException("there is no such line");
        }
    }

    private void needToken(int line, int token) throws IndexOutOfBoundsException {
        needLine(line);
        if (token < 0 || token >= lines.tokenCounts[line]) {
            throw new IndexOutOfBoundsException("there is no such token");
        }
    }

    private int neededSlot(int slot) throws IndexOutOfBoundsException {
        if (slot < 0 || slot >= format.size) {
            throw new IndexOutOfBoundsException("there is no such slot");
        }
        return format.order[slot];
    }

    private void needGrouping() throws IllegalStateException {
        if (!isGrouped) {
            throw new IllegalStateException("there is no grouping");
        }
    }

    /** The size of the text of a slot, NONE if it has no text. */
    private int textSize(int id) {
        int text = format.texts[id];
        return text == NONE ? NONE : lines.tokenSizes[text];
    }

    private int tokenIn(int line, int id) {
        if (!merged[line]) {
            return NONE;
        }
        int tokens = lines.tokenCounts[line];
        for (int t = 0; t < tokens; t++) {
            if (usedSlots[placeOf(line, t)] == id) {
                return t;
            }
        }
        return NONE;
    }

    private int textIn(int line, int id) {
        int token = tokenIn(line, id);
        return token == NONE ? NONE : lines.texts[placeOf(line, token)];
    }

    private int numberIn(int line, int id) {
        int token = tokenIn(line, id);
        if (token == NONE || format.kinds[id] != NUMBER) {
            return NONE;
        }
        return lines.numberOf(placeOf(line, token));
    }

    private static int firstByteOf(int line) {
        return line * MOST_BYTES;
    }

    /** Where a token stands in the rows of tokens; a line has no more tokens than bytes. */
    private static int placeOf(int line, int token) {
        return line * MOST_BYTES + token;
    }

    /** The lines that are stored, cut into tokens. */
    private static final class Lines {
        private int count;
        private final int[] sizes = new int[MOST_LINES];
        private final int[] tokenCounts = new int[MOST_LINES];
        private final byte[] bytes = new byte[MOST_LINES * MOST_BYTES];
        private final int[] kinds = new int[MOST_LINES * MOST_BYTES];
        /** Counted from the first byte of the first line, so that a text is found without its line. */
        private final int[] starts = new int[MOST_LINES * MOST_BYTES];
        private final int[] tokenSizes = new int[MOST_LINES * MOST_BYTES];
        /** The place of the first token with the same text, so that alignments compare numbers only. */
        private final int[] texts = new int[MOST_LINES * MOST_BYTES];

        /** The caller has seen that there is room for one more line. */
        int add(byte[] row, int size) {
            int line = count;
            for (int i = 0; i < size; i++) {
                bytes[firstByteOf(line) + i] = row[i];
            }
            sizes[line] = size;
            cut(line);
            numberTexts(line);
            count++;
            return line;
        }

        private void cut(int line) {
            int first = firstByteOf(line);
            int tokens = 0;
            int place = first;
            int last = NONE;
            for (int i = 0; i < sizes[line]; i++) {
                int kind = kindOf(bytes[first + i]);
                if (kind != last || kind == SIGN) {
                    place = placeOf(line, tokens);
                    kinds[place] = kind;
                    starts[place] = first + i;
                    tokenSizes[place] = 0;
                    tokens++;
                }
                tokenSizes[place]++;
                last = kind;
            }
            tokenCounts[line] = tokens;
        }

        private static int kindOf(int one) {
            if (one >= 'A' && one <= 'Z' || one >= 'a' && one <= 'z') {
                return WORD;
            }
            if (one >= '0' && one <= '9') {
                return NUMBER;
            }
            return one == ' ' ? SPACE : SIGN;
        }

        private void numberTexts(int line) {
            for (int t = 0; t < tokenCounts[line]; t++) {
                int place = placeOf(line, t);
                texts[place] = firstAlike(line, place);
            }
        }

        private int firstAlike(int lastLine, int place) {
            for (int line = 0; line <= lastLine; line++) {
                for (int t = 0; t < tokenCounts[line]; t++) {
                    if (isSameText(placeOf(line, t), place)) {
                        return placeOf(line, t);
                    }
                }
            }
            return place;
        }

        private boolean isSameText(int a, int b) {
            if (tokenSizes[a] != tokenSizes[b]) {
                return false;
            }
            for (int i = 0; i < tokenSizes[a]; i++) {
                if (bytes[starts[a] + i] != bytes[starts[b] + i]) {
                    return false;
                }
            }
            return true;
        }

        /** Of the last nine digits, which an int can hold. */
        int numberOf(int place) {
            int end = starts[place] + tokenSizes[place];
            int number = 0;
            for (int i = Math.max(starts[place], end - MOST_DIGITS); i < end; i++) {
                number = number * 10 + (bytes[i] - '0');
            }
            return number;
        }
    }

    /** A row of slots. A slot keeps its number in the rows; only the order changes when others come in. */
    private static final class Format {
        private int size;
        private int joinedLines;
        private final int[] order = new int[MOST_SLOTS];
        private final int[] kinds = new int[MOST_SLOTS];
        private final int[] texts = new int[MOST_SLOTS];
        private final int[] least = new int[MOST_SLOTS];
        private final int[] greatest = new int[MOST_SLOTS];
        private final int[] useCounts = new int[MOST_SLOTS];

        void makeEmpty() {
            size = 0;
            joinedLines = 0;
        }

        boolean canMiss(int id) {
            return useCounts[id] < joinedLines;
        }

        /** The caller has seen that there is room; it also gives the slot its place in the order. */
        int addSlot(Lines from, int place) {
            int id = size;
            size++;
            kinds[id] = from.kinds[place];
            texts[id] = from.texts[place];
            least[id] = from.tokenSizes[place];
            greatest[id] = from.tokenSizes[place];
            useCounts[id] = 1;
            return id;
        }

        void useSlot(int id, Lines from, int place) {
            if (texts[id] != from.texts[place]) {
                texts[id] = NONE;
            }
            least[id] = Math.min(least[id], from.tokenSizes[place]);
            greatest[id] = Math.max(greatest[id], from.tokenSizes[place]);
            useCounts[id]++;
        }
    }

    /** Aligns lines with formats, for the format that is learned and for those of the groups. */
    private static final class Aligner {
        private static final int WIDTH = MOST_BYTES + 1;

        private final Lines lines;
        private int change = 2;
        private int skip = 3;
        private int fresh = 4;

        /** The least cost of so many slots (rows) with so many tokens (columns). */
        private final int[] costs = new int[(MOST_SLOTS + 1) * WIDTH];
        /** The steps of the alignment, the last one first: so the ties are decided. */
        private final int[] steps = new int[MOST_STEPS];
        private int stepCount;
        private int freshCount;
        /** By token of the line that was joined last: the slot that it has used. */
        private final int[] slotsOfTokens = new int[MOST_BYTES];
        /** Whether the slots looked at so far can match so many tokens. */
        private final boolean[] reached = new boolean[WIDTH];

        Aligner(Lines lines) {
            this.lines = lines;
        }

        boolean takeCosts(int newChange, int newSkip, int newFresh) {
            boolean isOther = newChange != change || newSkip != skip || newFresh != fresh;
            change = newChange;
            skip = newSkip;
            fresh = newFresh;
            return isOther;
        }

        int leastCost(Format format, int line) {
            int tokens = lines.tokenCounts[line];
            for (int t = 0; t <= tokens; t++) {
                costs[t] = t * fresh;
            }
            for (int slot = 0; slot < format.size; slot++) {
                fillRow(format, slot, line);
            }
            return costs[format.size * WIDTH + tokens];
        }

        private void fillRow(Format format, int slot, int line) {
            int id = format.order[slot];
            int tokens = lines.tokenCounts[line];
            int skipping = skipCost(format, id);
            int before = slot * WIDTH;
            int row = before + WIDTH;
            costs[row] = costs[before] + skipping;
            for (int t = 0; t < tokens; t++) {
                int best = Math.min(costs[before + t + 1] + skipping, costs[row + t] + fresh);
                int pairing = pairCost(format, id, placeOf(line, t));
                if (pairing != NONE) {
                    best = Math.min(best, costs[before + t] + pairing);
                }
                costs[row + t + 1] = best;
            }
        }

        private int skipCost(Format format, int id) {
            return format.canMiss(id) ? 1 : skip;
        }

        /** NONE if the kinds differ, so that there can be no PAIR. */
        private int pairCost(Format format, int id, int place) {
            if (format.kinds[id] != lines.kinds[place]) {
                return NONE;
            }
            if (format.texts[id] == NONE) {
                return 1;
            }
            return format.texts[id] == lines.texts[place] ? 0 : change;
        }

        /** Finds the alignment that is meant, and its cost. */
        int align(Format format, int line) {
            int cost = leastCost(format, line);
            int slots = format.size;
            int tokens = lines.tokenCounts[line];
            int count = 0;
            freshCount = 0;
            while (count < MOST_STEPS && slots + tokens > 0) {
                int step = lastStep(format, line, slots, tokens);
                steps[count] = step;
                count++;
                if (step == FRESH) {
                    freshCount++;
                } else {
                    slots--;
                }
                if (step != SKIP) {
                    tokens--;
                }
            }
            stepCount = count;
            return cost;
        }

        /** The last step of so many slots with so many tokens, which are not both 0. */
        private int lastStep(Format format, int line, int slots, int tokens) {
            if (slots == 0) {
                return FRESH;
            }
            if (tokens == 0) {
                return SKIP;
            }
            int here = slots * WIDTH + tokens;
            int id = format.order[slots - 1];
            int pairing = pairCost(format, id, placeOf(line, tokens - 1));
            if (pairing != NONE && costs[here] == costs[here - WIDTH - 1] + pairing) {
                return PAIR;
            }
            return costs[here] == costs[here - WIDTH] + skipCost(format, id) ? SKIP : FRESH;
        }

        /** Whether the format can take the line that was aligned with it last. */
        boolean hasRoom(Format format) {
            return format.size + freshCount <= MOST_SLOTS;
        }

        /** Merges the line that was aligned with the format last; the caller has seen that there is room. */
        void join(Format format, int line) {
            int slots = format.size;
            int tokens = lines.tokenCounts[line];
            // From the end on, so that no slot is moved over one that is still to be moved.
            int to = slots + freshCount;
            for (int i = 0; i < stepCount; i++) {
                to--;
                int id;
                if (steps[i] == FRESH) {
                    id = format.addSlot(lines, placeOf(line, tokens - 1));
                } else {
                    slots--;
                    id = format.order[slots];
                    if (steps[i] == PAIR) {
                        format.useSlot(id, lines, placeOf(line, tokens - 1));
                    }
                }
                if (steps[i] != SKIP) {
                    tokens--;
                    slotsOfTokens[tokens] = id;
                }
                format.order[to] = id;
            }
            format.joinedLines++;
        }

        /** Whether the line fits the format. */
        boolean isMatch(Format format, int line) {
            int tokens = lines.tokenCounts[line];
            for (int t = 0; t <= tokens; t++) {
                reached[t] = t == 0;
            }
            for (int slot = 0; slot < format.size; slot++) {
                int id = format.order[slot];
                boolean canMiss = format.canMiss(id);
                // From the end on, so that what the slots before have reached is still there.
                for (int t = tokens; t > 0; t--) {
                    reached[t] = canMiss && reached[t]
                            || reached[t - 1] && canTake(format, id, placeOf(line, t - 1));
                }
                reached[0] = canMiss && reached[0];
            }
            return reached[tokens];
        }

        private boolean canTake(Format format, int id, int place) {
            if (format.texts[id] != NONE) {
                return format.texts[id] == lines.texts[place];
            }
            int size = lines.tokenSizes[place];
            return format.kinds[id] == lines.kinds[place]
                    && format.least[id] <= size && format.greatest[id] >= size;
        }
    }
}
