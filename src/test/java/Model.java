import java.math.BigInteger;
import java.nio.ByteBuffer;
import java.util.ArrayList;
import java.util.HashSet;
import java.util.List;
import java.util.Set;
import java.util.regex.Matcher;
import java.util.regex.Pattern;

/**
 * The document once more, written as plainly as the Java library allows and in another way than the program:
 * texts instead of numbers, and an alignment that is chosen among whole rows of steps.
 */
final class Model {
    static final class Token {
        final int kind;
        final String text;
        final int start;

        Token(int kind, String text, int start) {
            this.kind = kind;
            this.text = text;
            this.start = start;
        }
    }

    static final class Slot {
        final int kind;
        String text;
        /** By line: the token that has used it, or null. */
        final Token[] users = new Token[12];

        Slot(int kind, String text) {
            this.kind = kind;
            this.text = text;
        }

        int uses() {
            int uses = 0;
            for (Token user : users) {
                uses += user == null ? 0 : 1;
            }
            return uses;
        }

        int size(boolean isGreatest) {
            int found = -1;
            for (Token user : users) {
                if (user != null) {
                    int size = user.text.length();
                    found = found < 0 ? size : isGreatest ? Math.max(found, size) : Math.min(found, size);
                }
            }
            return found;
        }
    }

    static final class Format {
        List<Slot> slots = new ArrayList<>();
        final boolean[] merged = new boolean[12];

        int mergedCount() {
            int count = 0;
            for (boolean one : merged) {
                count += one ? 1 : 0;
            }
            return count;
        }

        boolean isOptional(Slot slot) {
            return slot.uses() < mergedCount();
        }
    }

    /** A row of steps, the last one first, as P, S and F are told by 0, 1 and 2. */
    static final class Steps {
        final int cost;
        final String row;

        Steps(int cost, String row) {
            this.cost = cost;
            this.row = row;
        }
    }

    private static final Pattern[] SHAPES = {Pattern.compile("[A-Za-z]+"), Pattern.compile("[0-9]+"),
        Pattern.compile(" +"), Pattern.compile("[^A-Za-z0-9 ]")};

    private String buffer = "";
    private final List<String> texts = new ArrayList<>();
    private final List<List<Token>> tokens = new ArrayList<>();
    private int[] costs = {2, 3, 4};
    private Format format = new Format();
    private List<Format> groups;
    private int[] groupOf;

    static List<Token> cut(String text) {
        List<Token> found = new ArrayList<>();
        int at = 0;
        while (at < text.length()) {
            for (int kind = 0; kind < 4; kind++) {
                Matcher m = SHAPES[kind].matcher(text);
                m.region(at, text.length());
                if (m.lookingAt()) {
                    found.add(new Token(kind, m.group(), at));
                    at = m.end();
                    break;
                }
            }
        }
        return found;
    }

    int feed(long bytes) {
        String more = "";
        for (byte one : ByteBuffer.allocate(8).putLong(bytes).array()) {
            if (one != 0) {
                if (one < 32 || one == 127) {
                    throw new IllegalArgumentException();
                }
                more += (char) one;
            }
        }
        if (buffer.length() + more.length() > 30) {
            throw new IllegalStateException();
        }
        buffer += more;
        return buffer.length();
    }

    int store() {
        if (texts.size() == 12) {
            throw new IllegalStateException();
        }
        texts.add(buffer);
        tokens.add(cut(buffer));
        buffer = "";
        groups = null;
        return texts.size() - 1;
    }

    int lineCount() {
        return texts.size();
    }

    int tokenCount(int line) {
        return tokens.get(line).size();
    }

    int tokenKind(int line, int token) {
        return tokens.get(line).get(token).kind;
    }

    int tokenStart(int line, int token) {
        return tokens.get(line).get(token).start;
    }

    int sameAtFront(int a, int b) {
        int same = 0;
        List<Token> first = tokens.get(a);
        List<Token> second = tokens.get(b);
        while (same < first.size() && same < second.size()
                && first.get(same).text.equals(second.get(same).text)) {
            same++;
        }
        return same;
    }

    boolean setCosts(int change, int skip, int fresh) {
        for (int cost : new int[] {change, skip, fresh}) {
            if (cost < 0 || cost > 20) {
                throw new IllegalArgumentException();
            }
        }
        boolean isOther = change != costs[0] || skip != costs[1] || fresh != costs[2];
        costs = new int[] {change, skip, fresh};
        groups = null;
        return isOther;
    }

    private Steps align(Format with, int line) {
        List<Token> row = tokens.get(line);
        Steps found = best(with, row, with.slots.size(), row.size(), new Steps[41][31]);
        if (with.slots.size() + row.size() <= 8) {
            Steps other = tryAll(with, row, 0, 0, 0, "", null);
            if (other.cost != found.cost || !other.row.equals(found.row)) {
                throw new AssertionError("the model is at odds with itself");
            }
        }
        return found;
    }

    private Steps best(Format with, List<Token> row, int slots, int count, Steps[][] known) {
        if (slots == 0 && count == 0) {
            return new Steps(0, "");
        }
        if (known[slots][count] != null) {
            return known[slots][count];
        }
        Steps found = null;
        if (slots > 0 && count > 0) {
            int cost = pairCost(with.slots.get(slots - 1), row.get(count - 1));
            if (cost >= 0) {
                Steps rest = best(with, row, slots - 1, count - 1, known);
                found = better(found, new Steps(rest.cost + cost, "0" + rest.row));
            }
        }
        if (slots > 0) {
            Steps rest = best(with, row, slots - 1, count, known);
            int cost = with.isOptional(with.slots.get(slots - 1)) ? 1 : costs[1];
            found = better(found, new Steps(rest.cost + cost, "1" + rest.row));
        }
        if (count > 0) {
            Steps rest = best(with, row, slots, count - 1, known);
            found = better(found, new Steps(rest.cost + costs[2], "2" + rest.row));
        }
        known[slots][count] = found;
        return found;
    }

    private static Steps better(Steps a, Steps b) {
        if (a == null || b.cost < a.cost) {
            return b;
        }
        return b.cost == a.cost && b.row.compareTo(a.row) < 0 ? b : a;
    }

    /** Every alignment there is, for small ones. */
    private Steps tryAll(Format with, List<Token> row, int slot, int token, int cost, String steps, Steps known) {
        if (slot == with.slots.size() && token == row.size()) {
            return better(known, new Steps(cost, steps));
        }
        Steps found = known;
        if (slot < with.slots.size() && token < row.size()) {
            int pair = pairCost(with.slots.get(slot), row.get(token));
            if (pair >= 0) {
                found = tryAll(with, row, slot + 1, token + 1, cost + pair, "0" + steps, found);
            }
        }
        if (slot < with.slots.size()) {
            int skip = with.isOptional(with.slots.get(slot)) ? 1 : costs[1];
            found = tryAll(with, row, slot + 1, token, cost + skip, "1" + steps, found);
        }
        if (token < row.size()) {
            found = tryAll(with, row, slot, token + 1, cost + costs[2], "2" + steps, found);
        }
        return found;
    }

    private int pairCost(Slot slot, Token token) {
        if (slot.kind != token.kind) {
            return -1;
        }
        return slot.text == null ? 1 : slot.text.equals(token.text) ? 0 : costs[0];
    }

    private static int slotsAfter(Format with, Steps steps) {
        return with.slots.size() + (int) steps.row.chars().filter(step -> step == '2').count();
    }

    private void join(Format with, int line, Steps steps) {
        List<Slot> row = new ArrayList<>();
        int slot = 0;
        int token = 0;
        for (char step : new StringBuilder(steps.row).reverse().toString().toCharArray()) {
            if (step == '1') {
                row.add(with.slots.get(slot++));
                continue;
            }
            Token user = tokens.get(line).get(token++);
            Slot used = step == '0' ? with.slots.get(slot++) : new Slot(user.kind, user.text);
            used.users[line] = user;
            if (used.text != null && !used.text.equals(user.text)) {
                used.text = null;
            }
            row.add(used);
        }
        with.slots = row;
        with.merged[line] = true;
    }

    int merge(int line) {
        Steps steps = align(format, line);
        if (format.merged[line] || slotsAfter(format, steps) > 40) {
            throw new IllegalStateException();
        }
        join(format, line, steps);
        return steps.cost;
    }

    int clear() {
        int before = format.mergedCount();
        format = new Format();
        return before;
    }

    boolean isMerged(int line) {
        tokens.get(line);
        return format.merged[line];
    }

    int costWith(int line) {
        return align(format, line).cost;
    }

    boolean fits(int line) {
        return fitsFrom(tokens.get(line), 0, 0);
    }

    private boolean fitsFrom(List<Token> row, int slot, int token) {
        if (slot == format.slots.size()) {
            return token == row.size();
        }
        Slot next = format.slots.get(slot);
        if (token < row.size()) {
            Token user = row.get(token);
            int size = user.text.length();
            boolean canTake = next.text != null ? next.text.equals(user.text)
                    : next.kind == user.kind && next.size(false) <= size && size <= next.size(true);
            if (canTake && fitsFrom(row, slot + 1, token + 1)) {
                return true;
            }
        }
        return format.isOptional(next) && fitsFrom(row, slot + 1, token);
    }

    int strangest() {
        int found = -1;
        for (int line = 0; line < texts.size(); line++) {
            if (found < 0 || costWith(line) > costWith(found)) {
                found = line;
            }
        }
        return found;
    }

    int slotCount() {
        return format.slots.size();
    }

    int slotKind(int slot) {
        return format.slots.get(slot).kind;
    }

    int textByte(int slot, int index) {
        String text = format.slots.get(slot).text;
        return text == null ? -1 : text.charAt(index);
    }

    int sizeOf(int slot, boolean isGreatest) {
        return format.slots.get(slot).size(isGreatest);
    }

    int uses(int slot) {
        return format.slots.get(slot).uses();
    }

    boolean isOptional(int slot) {
        return format.isOptional(format.slots.get(slot));
    }

    int tokenAt(int line, int slot) {
        return tokens.get(line).indexOf(format.slots.get(slot).users[line]);
    }

    int numberAt(int line, int slot) {
        int token = tokenAt(line, slot);
        if (token < 0 || tokens.get(line).get(token).kind != 1) {
            return -1;
        }
        return new BigInteger(tokens.get(line).get(token).text).mod(BigInteger.valueOf(1000000000)).intValue();
    }

    int distinct(int slot) {
        Set<String> found = new HashSet<>();
        for (Token user : format.slots.get(slot).users) {
            if (user != null) {
                found.add(user.text);
            }
        }
        return found.size();
    }

    boolean isRising(int slot) {
        boolean isNumber = slotKind(slot) == 1;
        List<Integer> numbers = new ArrayList<>();
        for (int line = 0; line < texts.size(); line++) {
            if (tokenAt(line, slot) >= 0) {
                numbers.add(numberAt(line, slot));
            }
        }
        boolean isRising = isNumber && numbers.size() >= 2;
        for (int i = 1; i < numbers.size(); i++) {
            isRising &= numbers.get(i - 1) < numbers.get(i);
        }
        return isRising;
    }

    int bits() {
        int bits = 0;
        for (Slot slot : format.slots) {
            bits += 4 + (slot.text == null ? 0 : 8 * slot.text.length());
            bits += format.isOptional(slot) ? format.mergedCount() : 0;
            for (Token user : slot.users) {
                if (user != null && slot.text == null) {
                    bits += 1 + user.text.length() * (user.kind == 0 ? 5 : user.kind == 1 ? 4 : user.kind == 2 ? 1 : 7);
                }
            }
        }
        return bits;
    }

    double saving() {
        int own = 0;
        for (int line = 0; line < texts.size(); line++) {
            own += format.merged[line] ? 8 * (1 + texts.get(line).length()) : 0;
        }
        return own == 0 ? 0 : 1 - bits() / (double) own;
    }

    int group(int limit) {
        if (limit < 0 || limit > 200) {
            throw new IllegalArgumentException();
        }
        groups = new ArrayList<>();
        groupOf = new int[12];
        for (int line = 0; line < texts.size(); line++) {
            Format found = null;
            for (Format one : groups) {
                Steps steps = align(one, line);
                if (slotsAfter(one, steps) <= 40 && steps.cost <= limit
                        && (found == null || steps.cost < align(found, line).cost)) {
                    found = one;
                }
            }
            if (found == null) {
                found = new Format();
                groups.add(found);
            }
            join(found, line, align(found, line));
            groupOf[line] = groups.indexOf(found);
        }
        return groups.size();
    }

    int groupOf(int line) {
        if (groups == null) {
            throw new IllegalStateException();
        }
        tokens.get(line);
        return groupOf[line];
    }

    int groupSlots(int group) {
        if (groups == null) {
            throw new IllegalStateException();
        }
        return groups.get(group).slots.size();
    }

    long digest() {
        List<Integer> numbers = new ArrayList<>(List.of(buffer.length(), texts.size()));
        for (String text : texts) {
            numbers.add(text.length());
            text.chars().forEach(numbers::add);
        }
        numbers.addAll(List.of(costs[0], costs[1], costs[2], format.slots.size()));
        for (Slot slot : format.slots) {
            numbers.addAll(List.of(slot.kind, slot.size(false), slot.size(true), slot.uses(),
                    slot.text == null ? -1 : slot.text.length()));
        }
        numbers.add(format.mergedCount());
        if (groups != null) {
            for (int line = 0; line < texts.size(); line++) {
                numbers.add(groupOf[line]);
            }
        }
        return DigestTest.digest(numbers.stream().mapToInt(x -> x).toArray());
    }
}
