import java.util.Arrays;

/** A house that exchanges official figures, as ../shared/DOC.md promises it. */
public final class Figurehouse {
    public static final int NONE = -1;
    public static final int MISSING = -2000000001, HIDDEN = -2000000002;
    public static final int ADD = 0, REPLACE = 1, DELETE = 2;

    private static final int MOST_AREAS = 14;
    private static final int MOST_ITEMS = 10;
    private static final int PERIODS = 12;
    private static final int SENDERS = 4;
    private static final int MOST_LINES = 16;
    private static final int MOST_SENT = 300;
    private static final int MOST_VALUE = 1000000;
    private static final int MOST_DAYS_AT_ONCE = 100;
    private static final int LAST_DAY = 1000;

    // A slot is an area and an item; a cell is a period's slot.
    private static final int SLOTS = MOST_AREAS * MOST_ITEMS;
    private static final int CELLS = PERIODS * SLOTS;

    private static final int DONE = 0;
    private static final int NOT_AGREED = 1;
    private static final int FIGURE_THERE = 2;
    private static final int NO_FIGURE = 3;
    private static final int SAME_VALUE = 4;

    private final Tree areas;
    private final Tree items;
    private final Agreements agreements;
    private final Draft draft;
    private final Book book;
    private final Sheet sheet;
    private final boolean[] secrets;
    private final int[] refusals;
    private int judgedLines;
    private int sentLines;
    private int today;

    public Figurehouse() {
        areas = new Tree(MOST_AREAS, MOST_ITEMS);
        items = new Tree(MOST_ITEMS, 1);
        agreements = new Agreements();
        draft = new Draft();
        book = new Book();
        sheet = new Sheet();
        secrets = new boolean[CELLS];
        refusals = new int[MOST_LINES];
    }

    // ---- areas, items, agreements

    public int area(int in) throws IndexOutOfBoundsException, IllegalStateException {
        requireNumberOrNone(areas, in);
        requireRoom(areas);
        return areas.grow(in);
    }

    public int item(int in) throws IndexOutOfBoundsException, IllegalStateException {
        requireNumberOrNone(items, in);
        requireRoom(items);
        return items.grow(in);
    }

    public boolean agree(int sender, int area, boolean isOn) throws IndexOutOfBoundsException {
        requireSender(sender);
        requireArea(area);
        return agreements.change(sender, area, isOn);
    }

    // ---- messages

    public int put(int what, int area, int item, int period, int value)
            throws IndexOutOfBoundsException, IllegalArgumentException, IllegalStateException {
        int cell = requireCell(area, item, period);
        if (what < ADD || what > DELETE) {
            throw new IllegalArgumentException("what is out of range");
        }
        if (value < -MOST_VALUE || value > MOST_VALUE) {
            throw new IllegalArgumentException("value is out of range");
        }
        if (draft.isFull()) {
            throw new IllegalStateException("the draft is full");
        }
        return draft.append(what, area, cell, value);
    }

    public int wipe() {
        return draft.clear();
    }

    public int send(int sender) throws IndexOutOfBoundsException, IllegalStateException {
        requireSender(sender);
        int lines = draft.size;
        if (lines == 0) {
            throw new IllegalStateException("the draft is empty");
        }
        if (sentLines + lines > MOST_SENT) {
            throw new IllegalStateException("too many lines would have been sent");
        }
        sentLines += lines;
        int done = judgeDraft(sender);
        draft.clear();
        return done;
    }

    public int refusal(int line) throws IndexOutOfBoundsException {
        if (line < 0 || line >= judgedLines || line >= refusals.length) {
            throw new IndexOutOfBoundsException("no such line");
        }
        return refusals[line];
    }

    // ---- secrets, days

    public int secret(int area, int item, int period, boolean isSecret) throws IndexOutOfBoundsException {
        int cell = requireCell(area, item, period);
        secrets[cell] = isSecret;
        loadHidden(period);
        return sheet.countHiddenSlots();
    }

    public int pass(int days) throws IllegalArgumentException, IllegalStateException {
        if (days < 1 || days > MOST_DAYS_AT_ONCE) {
            throw new IllegalArgumentException("days is out of range");
        }
        if (today + days > LAST_DAY) {
            throw new IllegalStateException("today would be behind the last day");
        }
        today += days;
        return today;
    }

    // ---- what is asked

    public int figure(int area, int item, int period, int day)
            throws IndexOutOfBoundsException, IllegalArgumentException {
        int cell = requireCell(area, item, period);
        requireDay(day);
        return book.figureOn(cell, day);
    }

    public int value(int area, int item, int period, int day)
            throws IndexOutOfBoundsException, IllegalArgumentException {
        requireCell(area, item, period);
        requireDay(day);
        sheet.load(book, period, day, areas, items);
        return sheet.valueAt(slotOf(area, item));
    }

    public int first(int area, int item, int period) throws IndexOutOfBoundsException {
        return book.earliest[requireCell(area, item, period)];
    }

    public int revisions(int area, int item, int period) throws IndexOutOfBoundsException {
        return book.linesDone[requireCell(area, item, period)];
    }

    public boolean hasFault(int area, int item, int period) throws IndexOutOfBoundsException {
        int told = book.latest[requireCell(area, item, period)];
        if (told == MISSING) {
            return false;
        }
        sheet.load(book, period, today, areas, items);
        int slot = slotOf(area, item);
        return isOtherSum(sheet.sumRightIn(areas, area, slot), told)
                || isOtherSum(sheet.sumRightIn(items, item, slot), told);
    }

    public int shown(int area, int item, int period) throws IndexOutOfBoundsException {
        requireCell(area, item, period);
        loadHidden(period);
        int slot = slotOf(area, item);
        return sheet.isHidden(slot) ? HIDDEN : sheet.valueAt(slot);
    }

    public int hidden(int period) throws IndexOutOfBoundsException {
        if (!isPeriod(period)) {
            throw new IndexOutOfBoundsException("no such period");
        }
        loadHidden(period);
        return sheet.countHiddenSlots();
    }

    public int find(int area, int item, int from, int to, int since, int place)
            throws IndexOutOfBoundsException, IllegalArgumentException {
        requireNumberOrNone(areas, area);
        requireNumberOrNone(items, item);
        if (place < 0) {
            throw new IndexOutOfBoundsException("place is below 0");
        }
        if (!isPeriod(from) || !isPeriod(to) || to < from) {
            throw new IllegalArgumentException("from or to is out of range");
        }
        if (since < 0 || since > LAST_DAY) {
            throw new IllegalArgumentException("since is out of range");
        }
        return matchAt(area, item, from, to, since, place);
    }

    public boolean mayTell(int sender, int area) throws IndexOutOfBoundsException {
        requireSender(sender);
        requireArea(area);
        return agreements.cover(sender, area, areas);
    }

    // ---- what the calls must be given

    private static boolean isPeriod(int period) {
        return period >= 0 && period < PERIODS;
    }

    private static void requireSender(int sender) {
        if (sender < 0 || sender >= SENDERS) {
            throw new IndexOutOfBoundsException("no such sender");
        }
    }

    private static void requireNumberOrNone(Tree tree, int number) {
        if (number != NONE && !tree.has(number)) {
            throw new IndexOutOfBoundsException("no such area or item");
        }
    }

    private static void requireRoom(Tree tree) {
        if (tree.isFull()) {
            throw new IllegalStateException("no more areas or items");
        }
    }

    private void requireArea(int area) {
        if (!areas.has(area)) {
            throw new IndexOutOfBoundsException("no such area");
        }
    }

    private int requireCell(int area, int item, int period) {
        if (!areas.has(area) || !items.has(item) || !isPeriod(period)) {
            throw new IndexOutOfBoundsException("no such area, item or period");
        }
        return cellOf(area, item, period);
    }

    private void requireDay(int day) {
        if (day < 0 || day > today) {
            throw new IllegalArgumentException("day is out of range");
        }
    }

    private static int slotOf(int area, int item) {
        return area * MOST_ITEMS + item;
    }

    private static int cellOf(int area, int item, int period) {
        return period * SLOTS + slotOf(area, item);
    }

    // ---- judging

    /** Judges the lines in turn and does each at once, as those behind it are judged by what it did. */
    private int judgeDraft(int sender) {
        int done = 0;
        for (int line = 0; line < draft.size && line < MOST_LINES; line++) {
            int refusal = judge(sender, line);
            refusals[line] = refusal;
            if (refusal == DONE) {
                book.enter(draft.cells[line], today, draft.figureBehind(line));
                done++;
            }
        }
        judgedLines = draft.size;
        return done;
    }

    private int judge(int sender, int line) {
        if (!agreements.cover(sender, draft.areas[line], areas)) {
            return NOT_AGREED;
        }
        int what = draft.whats[line];
        int told = book.latest[draft.cells[line]];
        if (what == ADD) {
            return told == MISSING ? DONE : FIGURE_THERE;
        }
        if (told == MISSING) {
            return NO_FIGURE;
        }
        return what == REPLACE && draft.values[line] == told ? SAME_VALUE : DONE;
    }

    // ---- faults, secrets

    private static boolean isOtherSum(int sum, int told) {
        return sum != MISSING && sum != told;
    }

    private void loadHidden(int period) {
        sheet.load(book, period, today, areas, items);
        sheet.hide(secrets, period, areas, items);
    }

    // ---- patterns

    private int matchAt(int area, int item, int from, int to, int since, int place) {
        int ahead = place;
        for (int period = from; period <= to; period++) {
            for (int a = 0; a < areas.size; a++) {
                for (int i = 0; i < items.size; i++) {
                    if (book.isToldSince(cellOf(a, i, period), since)
                            && areas.isWithin(a, area) && items.isWithin(i, item)) {
                        if (ahead == 0) {
                            return 1000 * period + 20 * a + i;
                        }
                        ahead--;
                    }
                }
            }
        }
        return NONE;
    }

    // ---- what the house keeps

    /** Areas or items: numbers that lie in one another, each in an earlier one or in none. */
    private static final class Tree {
        private final int[] outer;
        // How far apart the slots of two neighbouring numbers lie.
        private final int stride;
        private int size;

        Tree(int most, int stride) {
            outer = new int[most];
            this.stride = stride;
        }

        boolean has(int number) {
            return number >= 0 && number < size;
        }

        boolean isFull() {
            return size >= outer.length;
        }

        int grow(int in) {
            int number = size;
            if (number < outer.length) {
                outer[number] = in;
                size = number + 1;
            }
            return number;
        }

        boolean isRightIn(int number, int head) {
            return number >= 0 && number < size && outer[number] == head;
        }

        /** Whether it is the other one or lies in it, right or farther; all do in NONE. */
        boolean isWithin(int number, int other) {
            int at = number;
            for (int steps = 0; steps < size && has(at) && at != other; steps++) {
                at = outer[at];
            }
            return at == other;
        }
    }

    /** What was agreed with each sender for each area itself, not for those that lie in it. */
    private static final class Agreements {
        private final boolean[] isOn = new boolean[SENDERS * MOST_AREAS];

        boolean change(int sender, int area, boolean isOnThen) {
            int place = sender * MOST_AREAS + area;
            boolean isOther = isOn[place] != isOnThen;
            isOn[place] = isOnThen;
            return isOther;
        }

        boolean cover(int sender, int area, Tree areas) {
            for (int other = 0; other < areas.size; other++) {
                if (isOn[sender * MOST_AREAS + other] && areas.isWithin(area, other)) {
                    return true;
                }
            }
            return false;
        }
    }

    /** The lines that were put and not sent yet. */
    private static final class Draft {
        private final int[] whats = new int[MOST_LINES];
        private final int[] areas = new int[MOST_LINES];
        private final int[] cells = new int[MOST_LINES];
        private final int[] values = new int[MOST_LINES];
        private int size;

        boolean isFull() {
            return size >= MOST_LINES;
        }

        int append(int what, int area, int cell, int value) {
            if (size < MOST_LINES) {
                whats[size] = what;
                areas[size] = area;
                cells[size] = cell;
                values[size] = value;
                size++;
            }
            return size;
        }

        /** The figure that the cell has, if the line is done. */
        int figureBehind(int line) {
            return whats[line] == DELETE ? MISSING : values[line];
        }

        int clear() {
            int lines = size;
            size = 0;
            return lines;
        }
    }

    /** All lines that were done, in their order, and what they come to for each cell. */
    private static final class Book {
        private final int[] latest = new int[CELLS];
        private final int[] earliest = new int[CELLS];
        private final int[] linesDone = new int[CELLS];
        private final int[] lastDay = new int[CELLS];
        private final int[] cells = new int[MOST_SENT];
        private final int[] days = new int[MOST_SENT];
        private final int[] figures = new int[MOST_SENT];
        private int size;

        Book() {
            Arrays.fill(latest, MISSING);
            Arrays.fill(earliest, MISSING);
        }

        /** The figure is what the cell has behind the line: MISSING, if the line deletes it. */
        void enter(int cell, int day, int figure) {
            if (size < MOST_SENT) {
                cells[size] = cell;
                days[size] = day;
                figures[size] = figure;
                size++;
                if (linesDone[cell] == 0) {
                    earliest[cell] = figure;
                }
                latest[cell] = figure;
                linesDone[cell]++;
                lastDay[cell] = day;
            }
        }

        int figureOn(int cell, int day) {
            for (int line = size - 1; line >= 0; line--) {
                if (cells[line] == cell && days[line] <= day) {
                    return figures[line];
                }
            }
            return MISSING;
        }

        boolean isToldSince(int cell, int day) {
            return latest[cell] != MISSING && lastDay[cell] >= day;
        }
    }

    /** The values of one period as they were known on one day, and which of them are hidden. */
    private static final class Sheet {
        private final int[] values = new int[SLOTS];
        private final boolean[] hides = new boolean[SLOTS];

        int valueAt(int slot) {
            return slot >= 0 && slot < SLOTS ? values[slot] : MISSING;
        }

        boolean isHidden(int slot) {
            return slot >= 0 && slot < SLOTS && hides[slot];
        }

        void load(Book book, int period, int day, Tree areas, Tree items) {
            loadFigures(book, period, day);
            // What lies in another has the higher number, so that going down no sum comes ahead of its parts.
            for (int area = areas.size - 1; area >= 0; area--) {
                for (int item = items.size - 1; item >= 0; item--) {
                    int slot = slotOf(area, item);
                    if (values[slot] == MISSING) {
                        values[slot] = sumRightIn(areas, area, slot);
                    }
                    if (values[slot] == MISSING) {
                        values[slot] = sumRightIn(items, item, slot);
                    }
                }
            }
        }

        private void loadFigures(Book book, int period, int day) {
            Arrays.fill(values, MISSING);
            for (int line = 0; line < book.size && book.days[line] <= day; line++) {
                int slot = book.cells[line] - period * SLOTS;
                if (slot >= 0 && slot < SLOTS) {
                    values[slot] = book.figures[line];
                }
            }
        }

        /** The sum of a row's cells besides the first; MISSING, if there are none or one has no value. */
        int sumRightIn(Tree tree, int head, int headSlot) {
            int sum = 0;
            boolean isEmpty = true;
            for (int number = head + 1; number < tree.size; number++) {
                if (tree.isRightIn(number, head)) {
                    int value = valueAt(slotBeside(tree, head, headSlot, number));
                    if (value == MISSING) {
                        return MISSING;
                    }
                    sum += value;
                    isEmpty = false;
                }
            }
            return isEmpty ? MISSING : sum;
        }

        private static int slotBeside(Tree tree, int head, int headSlot, int number) {
            return headSlot + (number - head) * tree.stride;
        }

        void hide(boolean[] secrets, int period, Tree areas, Tree items) {
            for (int slot = 0; slot < SLOTS; slot++) {
                hides[slot] = secrets[period * SLOTS + slot] && values[slot] != MISSING;
            }
            boolean hidMore = true;
            // Each round but the last hides at least one more, so there are no more rounds than slots.
            for (int round = 0; round <= SLOTS && hidMore; round++) {
                boolean hidByAreas = goThroughRows(areas, items, true);
                boolean hidByItems = goThroughRows(areas, items, false);
                hidMore = hidByAreas || hidByItems;
            }
        }

        private boolean goThroughRows(Tree areas, Tree items, boolean isByAreas) {
            boolean hidMore = false;
            for (int area = 0; area < areas.size; area++) {
                for (int item = 0; item < items.size; item++) {
                    int slot = slotOf(area, item);
                    if (isByAreas ? protectRow(areas, area, slot) : protectRow(items, item, slot)) {
                        hidMore = true;
                    }
                }
            }
            return hidMore;
        }

        /** Hides another cell of a row of which just one is hidden, and tells whether it did. */
        private boolean protectRow(Tree tree, int head, int headSlot) {
            // With all parts known the first cell has a value too, by its figure or by sums.
            if (countHiddenInRow(tree, head, headSlot) != 1 || sumRightIn(tree, head, headSlot) == MISSING) {
                return false;
            }
            hides[nearestOpenSlot(tree, head, headSlot)] = true;
            return true;
        }

        private int countHiddenInRow(Tree tree, int head, int headSlot) {
            int count = isHidden(headSlot) ? 1 : 0;
            for (int number = head + 1; number < tree.size; number++) {
                if (tree.isRightIn(number, head) && isHidden(slotBeside(tree, head, headSlot, number))) {
                    count++;
                }
            }
            return count;
        }

        private int nearestOpenSlot(Tree tree, int head, int headSlot) {
            int nearest = NONE;
            for (int number = head + 1; number < tree.size; number++) {
                int slot = slotBeside(tree, head, headSlot, number);
                if (tree.isRightIn(number, head) && !isHidden(slot)
                        && (nearest == NONE || Math.abs(valueAt(slot)) < Math.abs(valueAt(nearest)))) {
                    nearest = slot;
                }
            }
            return nearest == NONE ? headSlot : nearest;
        }

        int countHiddenSlots() {
            int count = 0;
            for (int slot = 0; slot < SLOTS; slot++) {
                if (hides[slot]) {
                    count++;
                }
            }
            return count;
        }
    }
}
