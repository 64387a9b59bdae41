/**
 * A column of numbers in pages: each page chooses how it is coded (plain, words, runs, small
 * numbers, steps). README.md tells how to use it, DOC.md what each call answers.
 */
public final class CodedColumn {
    /** There is no such result. */
    public static final int NONE = -9999;

    private static final int GREATEST_VALUE = 1023;
    private static final int PAGE_ROOM = 12;
    private static final int MOST_PAGES = 10;
    private static final int COLUMN_ROOM = 120;
    private static final int FIRST_LIMIT = 8;

    private static final int PLAIN = 0;
    private static final int WORDS = 1;
    private static final int RUNS = 2;
    private static final int SMALL = 3;
    private static final int STEPS = 4;

    private static final int CODING_BITS = 3;
    private static final int COUNT_BITS = 4;
    private static final int VALUE_BITS = 10;
    private static final int MOST_STEP_BITS = 11;
    private static final int MOST_CODE_BITS = 179;

    private static final int TEXT_ROOM = 160;
    private static final int GREATEST_CHARACTER = 255;
    private static final int MOST_REMEMBERED = 14;
    private static final int SLOTS = 2;
    private static final int GREATEST_WHAT = 8;
    private static final int MOST_COMMANDS = 3;
    private static final int GROUP = 1000000;
    private static final int MOST_SIMULATED = 99;

    private final Column column = new Column();
    private final PageText text = new PageText();
    private final PageWriter writer = new PageWriter();
    private final History history = new History();
    private final Shelf slots = new Shelf(SLOTS);

    // What follows is only room to work in: kept so that no call makes an object.
    private final Column copy = new Column();
    private final Script commands = new Script();
    private final PageMeasure trial = new PageMeasure();
    private final Row leastBits = new Row(COLUMN_ROOM + 1);
    private final Row groups = new Row(MOST_COMMANDS);

    public CodedColumn() {
    }

    // ---- text

    public int append(int c) throws IllegalArgumentException, IllegalStateException {
        if (c < 0 || c > GREATEST_CHARACTER) {
            throw new IllegalArgumentException("a character is 0 to 255");
        }
        if (text.isFull()) {
            throw new IllegalStateException("the text is full");
        }
        return text.addCharacter(c);
    }

    public int clearText() {
        return text.makeEmpty();
    }

    public int errorPosition() {
        return text.readPage();
    }

    // ---- what there is

    public int about(int what) throws IllegalArgumentException {
        switch (what) {
            case 0:
                return column.valueCount;
            case 1:
                return column.pageCount;
            case 2:
                return column.limit;
            case 3:
                return column.totalSize();
            case 4:
                return VALUE_BITS * column.valueCount;
            case 5:
                return column.pinnedPages();
            case 6:
                return column.smallestValue();
            case 7:
                return column.greatestValue();
            case 8:
                return column.differentValues();
            default:
                throw new IllegalArgumentException("what is 0 to 8");
        }
    }

    public int at(int i) throws IndexOutOfBoundsException {
        if (!column.hasValue(i)) {
            throw new IndexOutOfBoundsException("there is no such value");
        }
        return column.valueAt(i);
    }

    public int page(int p, int what) throws IndexOutOfBoundsException, IllegalArgumentException {
        if (!column.hasPage(p)) {
            throw new IndexOutOfBoundsException("there is no such page");
        }
        if (what < 0 || what > GREATEST_WHAT) {
            throw new IllegalArgumentException("what is 0 to 8");
        }
        PageMeasure measure = column.measurePage(p);
        switch (what) {
            case 0:
                return column.firstOf(p);
            case 1:
                return measure.count;
            case 2:
                return measure.codingWhen(column.pinOf(p));
            case 3:
                return measure.sizeWhen(column.pinOf(p));
            case 4:
                return measure.smallest;
            case 5:
                return measure.greatest;
            case 6:
                return measure.wordCount;
            case 7:
                return measure.runCount;
            default:
                return column.pinOf(p);
        }
    }

    public int bit(int p, int i) throws IndexOutOfBoundsException, IllegalArgumentException {
        if (!column.hasPage(p)) {
            throw new IndexOutOfBoundsException("there is no such page");
        }
        if (i < 0) {
            throw new IllegalArgumentException("a bit is numbered from 0");
        }
        writer.writePage(column, p);
        return i < writer.length ? writer.bits.get(i) : NONE;
    }

    public int size(int p, int coding) throws IndexOutOfBoundsException, IllegalArgumentException {
        if (!column.hasPage(p)) {
            throw new IndexOutOfBoundsException("there is no such page");
        }
        if (!isCoding(coding)) {
            throw new IllegalArgumentException("a coding is 0 to 4");
        }
        return column.measurePage(p).sizeBy(coding);
    }

    public int scan(int v, boolean times) throws IllegalArgumentException {
        if (!isValue(v)) {
            throw new IllegalArgumentException("a value is 0 to 1023");
        }
        return times ? column.timesOf(v) : column.scanCost(v);
    }

    public int sum(int from, int to) throws IndexOutOfBoundsException {
        if (!column.hasValue(from) || !column.hasValue(to)) {
            throw new IndexOutOfBoundsException("there is no such value");
        }
        int sum = 0;
        for (int i = from; i <= to; i++) {
            sum += column.valueAt(i);
        }
        return sum;
    }

    // ---- actions

    public int add(int v) throws IllegalArgumentException, IllegalStateException {
        if (!isValue(v)) {
            throw new IllegalArgumentException("a value is 0 to 1023");
        }
        if (!column.canAppend()) {
            throw new IllegalStateException("a new page would be the 11th");
        }
        history.remember(column);
        return column.appendValue(v);
    }

    public int put(int i, int v) throws IndexOutOfBoundsException, IllegalArgumentException {
        if (!column.hasValue(i)) {
            throw new IndexOutOfBoundsException("there is no such value");
        }
        if (!isValue(v)) {
            throw new IllegalArgumentException("a value is 0 to 1023");
        }
        history.remember(column);
        return column.changeValue(i, v);
    }

    public int remove(int i) throws IndexOutOfBoundsException {
        if (!column.hasValue(i)) {
            throw new IndexOutOfBoundsException("there is no such value");
        }
        history.remember(column);
        return column.dropValue(i);
    }

    public int cut(int p, int k)
            throws IndexOutOfBoundsException, IllegalArgumentException, IllegalStateException {
        if (!column.hasPage(p)) {
            throw new IndexOutOfBoundsException("there is no such page");
        }
        if (!column.hasCut(p, k)) {
            throw new IllegalArgumentException("both parts of a cut have values");
        }
        if (column.isFull()) {
            throw new IllegalStateException("there are 10 pages");
        }
        history.remember(column);
        column.splitPage(p, k);
        return column.totalSize();
    }

    public int merge(int p) throws IndexOutOfBoundsException, IllegalStateException {
        if (!column.hasNext(p)) {
            throw new IndexOutOfBoundsException("there are no such two pages");
        }
        if (!column.canJoin(p)) {
            throw new IllegalStateException("the page would have more than 12 values");
        }
        history.remember(column);
        column.joinPages(p);
        return column.totalSize();
    }

    public int compact() {
        history.remember(column);
        return column.joinWhileItSaves();
    }

    public int pin(int p, int coding) throws IndexOutOfBoundsException, IllegalArgumentException {
        if (!column.hasPage(p)) {
            throw new IndexOutOfBoundsException("there is no such page");
        }
        if (coding != NONE && !isCoding(coding)) {
            throw new IllegalArgumentException("a coding is 0 to 4, or NONE");
        }
        history.remember(column);
        column.pinPage(p, coding);
        return column.sizeOf(p);
    }

    public int setLimit(int v) throws IllegalArgumentException {
        if (v < 1 || v > PAGE_ROOM) {
            throw new IllegalArgumentException("the limit is 1 to 12");
        }
        history.remember(column);
        int previous = column.limit;
        column.limit = v;
        return previous;
    }

    public int take() throws IllegalStateException {
        if (text.readPage() != NONE) {
            throw new IllegalStateException("the text is not a page");
        }
        if (column.isFull()) {
            throw new IllegalStateException("there are 10 pages");
        }
        history.remember(column);
        int p = column.appendPage(text.values, text.count);
        return column.codingOf(p);
    }

    public int undo() throws IllegalStateException {
        if (history.count == 0) {
            throw new IllegalStateException("no state is remembered");
        }
        return history.takeBack(column);
    }

    // ---- what would be

    public int gain(int p) throws IndexOutOfBoundsException {
        if (!column.hasPage(p)) {
            throw new IndexOutOfBoundsException("there is no such page");
        }
        return column.savedByJoin(p);
    }

    public int bestCut(int p) throws IndexOutOfBoundsException {
        if (!column.hasPage(p)) {
            throw new IndexOutOfBoundsException("there is no such page");
        }
        int best = NONE;
        int least = 0;
        int length = column.lengthOf(p);
        for (int k = 1; k < length; k++) {
            int bits = column.sizeOfParts(p, k);
            if (k == 1 || bits < least) {
                best = k;
                least = bits;
            }
        }
        return best;
    }

    public int smallest() {
        int count = column.valueCount;
        leastBits.set(count, 0);
        for (int from = count - 1; from >= 0; from--) {
            leastBits.set(from, leastBitsFrom(from));
        }
        return leastBits.get(0);
    }

    /** The fewest bits of the values from this one on; leastBits has those of all behind it. */
    private int leastBitsFrom(int from) {
        int least = 0;
        trial.start();
        for (int i = from; i < column.valueCount && i < from + PAGE_ROOM; i++) {
            trial.include(column.valueAt(i));
            int bits = trial.sizeWhen(NONE) + leastBits.get(i + 1);
            least = i == from ? bits : Math.min(least, bits);
        }
        return least;
    }

    public int bestNext(int p) throws IndexOutOfBoundsException {
        if (!column.hasPage(p)) {
            throw new IndexOutOfBoundsException("there is no such page");
        }
        if (column.lengthOf(p) >= PAGE_ROOM) {
            return NONE;
        }
        PageMeasure measure = column.measurePage(p);
        int best = 0;
        int least = 0;
        for (int v = 0; v <= GREATEST_VALUE; v++) {
            trial.copyFrom(measure);
            trial.include(v);
            int bits = trial.sizeWhen(column.pinOf(p));
            if (v == 0 || bits < least) {
                best = v;
                least = bits;
            }
        }
        return best;
    }

    // ---- scripts, simulations

    public int runScript(int n, long script) throws IllegalArgumentException {
        if (n < 1 || n > MOST_COMMANDS) {
            throw new IllegalArgumentException("a script has 1 to 3 commands");
        }
        if (script < 0) {
            throw new IllegalArgumentException("a script is not negative");
        }
        long rest = script;
        for (int i = n - 1; i >= 0; i--) {
            groups.set(i, (int) (rest % GROUP));
            rest = rest / GROUP;
        }
        if (rest != 0) {
            throw new IllegalArgumentException("a script has at most six digits for each command");
        }
        commands.startFrom(column);
        for (int i = 0; i < n; i++) {
            if (!commands.succeeds(groups.get(i))) {
                return i;
            }
        }
        return NONE;
    }

    public int simulate(long seed, int m) throws IllegalArgumentException {
        if (m < 1 || m > MOST_SIMULATED) {
            throw new IllegalArgumentException("1 to 99 values are simulated");
        }
        copy.copyFrom(column);
        long x = seed;
        for (int i = 0; i < m; i++) {
            x = x * 6364136223846793005L + 1442695040888963407L;
            int v = simulatedValue((int) (x >>> 33));
            if (copy.canAppend()) {
                copy.appendValue(v);
            } else {
                copy.joinWhileItSaves();
            }
        }
        return 10 * copy.totalSize() + copy.differentCodings();
    }

    /** The value for r, which is 0 or more: a new one, or one near the last value of the copy. */
    private int simulatedValue(int r) {
        int last = copy.lastValue();
        int part = r / 4;
        switch (r % 4) {
            case 0:
                return part % (GREATEST_VALUE + 1);
            case 1:
                return last;
            case 2:
                return Math.min(last + part % 8, GREATEST_VALUE);
            default:
                return Math.max(last - part % 8, 0);
        }
    }

    // ---- save slots

    public int save(int slot) throws IndexOutOfBoundsException {
        if (slot < 0 || slot >= SLOTS) {
            throw new IndexOutOfBoundsException("a save slot is 0 or 1");
        }
        slots.store(slot, column);
        return column.valueCount;
    }

    public int restore(int slot) throws IndexOutOfBoundsException, IllegalStateException {
        if (slot < 0 || slot >= SLOTS) {
            throw new IndexOutOfBoundsException("a save slot is 0 or 1");
        }
        if (!slots.isFilled(slot)) {
            throw new IllegalStateException("nothing has been saved in this slot");
        }
        slots.fetch(slot, column);
        history.forgetAll();
        return column.valueCount;
    }

    // ---- what several classes ask

    private static boolean isValue(int v) {
        return v >= 0 && v <= GREATEST_VALUE;
    }

    private static boolean isCoding(int coding) {
        return coding >= PLAIN && coding <= STEPS;
    }

    /** The number of bits that a number of 0 or more needs. */
    private static int widthOf(int number) {
        int width = 0;
        while (width < MOST_STEP_BITS && (number >> width) > 0) {
            width++;
        }
        return width;
    }

    /**
     * A row of numbers that tests every index itself. Its users keep to the row by their own
     * bounds; a place outside it reads as 0 and takes nothing, so that the machine never throws.
     */
    private static final class Row {
        private final int[] cells;

        Row(int length) {
            cells = new int[length > 0 ? length : 0];
        }

        int get(int i) {
            return i >= 0 && i < cells.length ? cells[i] : 0;
        }

        void set(int i, int number) {
            if (i >= 0 && i < cells.length) {
                cells[i] = number;
            }
        }

        /** Puts a number ahead of those at i and behind it; the last one falls out. */
        void insertAt(int i, int number) {
            for (int to = cells.length - 1; to > i; to--) {
                set(to, get(to - 1));
            }
            set(i, number);
        }

        /** Takes the number at i out; those behind it move up. */
        void removeAt(int i) {
            for (int from = i + 1; from < cells.length; from++) {
                set(from - 1, get(from));
            }
        }

        void copyFrom(Row other) {
            for (int i = 0; i < cells.length; i++) {
                cells[i] = other.get(i);
            }
        }
    }

    /** What the codings ask about the values of a page, which are included one by one. */
    private static final class PageMeasure {
        private final int[] words = new int[PAGE_ROOM];
        private int wordCount;
        private int count;
        private int last;
        private int smallest;
        private int greatest;
        private int runCount;
        private int wordWidth;
        private int smallWidth;
        private int stepWidth;

        /** From here on no value is included; the first one sets what is not set here. */
        void start() {
            count = 0;
            wordCount = 0;
            stepWidth = 1;
        }

        void include(int v) {
            if (numberOfWord(v) == NONE && wordCount < words.length) {
                words[wordCount] = v;
                wordCount++;
            }
            if (count == 0) {
                smallest = v;
                greatest = v;
                runCount = 1;
            } else {
                smallest = Math.min(smallest, v);
                greatest = Math.max(greatest, v);
                runCount += v == last ? 0 : 1;
                int step = v - last;
                // One bit more than the number, for the sign: a step s needs as many as -1 - s.
                stepWidth = Math.max(stepWidth, 1 + widthOf(step < 0 ? -1 - step : step));
            }
            wordWidth = widthOf(wordCount - 1);
            smallWidth = widthOf(greatest - smallest);
            last = v;
            count++;
        }

        /** The number of the word that is this value; NONE if there is none. */
        int numberOfWord(int v) {
            for (int i = 0; i < wordCount && i < words.length; i++) {
                if (words[i] == v) {
                    return i;
                }
            }
            return NONE;
        }

        int wordAt(int i) {
            return i >= 0 && i < words.length ? words[i] : 0;
        }

        /** The size with this coding; there is at least one value. */
        int sizeBy(int coding) {
            int head = CODING_BITS + COUNT_BITS;
            switch (coding) {
                case WORDS:
                    return head + COUNT_BITS + VALUE_BITS * wordCount + wordWidth * count;
                case RUNS:
                    return head + (VALUE_BITS + COUNT_BITS) * runCount;
                case SMALL:
                    return head + VALUE_BITS + COUNT_BITS + smallWidth * count;
                case STEPS:
                    return head + VALUE_BITS + COUNT_BITS + stepWidth * (count - 1);
                default:
                    return head + VALUE_BITS * count;
            }
        }

        /** The coding of a page that is pinned like this. */
        int codingWhen(int pin) {
            if (pin != NONE) {
                return pin;
            }
            int best = PLAIN;
            int least = sizeBy(PLAIN);
            for (int coding = WORDS; coding <= STEPS; coding++) {
                int bits = sizeBy(coding);
                if (bits < least) {
                    best = coding;
                    least = bits;
                }
            }
            return best;
        }

        /** The size of a page that is pinned like this. */
        int sizeWhen(int pin) {
            return sizeBy(codingWhen(pin));
        }

        void copyFrom(PageMeasure other) {
            wordCount = other.wordCount;
            for (int i = 0; i < wordCount && i < words.length; i++) {
                words[i] = other.wordAt(i);
            }
            count = other.count;
            last = other.last;
            smallest = other.smallest;
            greatest = other.greatest;
            runCount = other.runCount;
            wordWidth = other.wordWidth;
            smallWidth = other.smallWidth;
            stepWidth = other.stepWidth;
        }
    }

    /**
     * The state. All values lie in one row, and each page is only a length and a pin, so that
     * cuts and merges move no value.
     */
    private static final class Column {
        private final Row values = new Row(COLUMN_ROOM);
        private final Row lengths = new Row(MOST_PAGES);
        private final Row pins = new Row(MOST_PAGES);
        private final PageMeasure measure = new PageMeasure();
        private int valueCount;
        private int pageCount;
        private int limit = FIRST_LIMIT;

        void copyFrom(Column other) {
            values.copyFrom(other.values);
            lengths.copyFrom(other.lengths);
            pins.copyFrom(other.pins);
            valueCount = other.valueCount;
            pageCount = other.pageCount;
            limit = other.limit;
        }

        // What there is.

        boolean hasValue(int i) {
            return i >= 0 && i < valueCount;
        }

        boolean hasPage(int p) {
            return p >= 0 && p < pageCount;
        }

        /** Whether there are this page and one behind it. */
        boolean hasNext(int p) {
            return p >= 0 && p < pageCount - 1;
        }

        /** Whether both parts of the page would have values. */
        boolean hasCut(int p, int k) {
            return k >= 1 && k < lengthOf(p);
        }

        boolean isFull() {
            return pageCount >= MOST_PAGES;
        }

        int valueAt(int i) {
            return values.get(i);
        }

        int lastValue() {
            return valueCount > 0 ? values.get(valueCount - 1) : 0;
        }

        int lengthOf(int p) {
            return lengths.get(p);
        }

        int pinOf(int p) {
            return pins.get(p);
        }

        /** The number of the first value of a page. */
        int firstOf(int p) {
            int first = 0;
            for (int before = 0; before < p && before < pageCount; before++) {
                first += lengths.get(before);
            }
            return first;
        }

        /** The page of a value that is there. */
        private int pageOf(int i) {
            int end = 0;
            for (int p = 0; p < pageCount; p++) {
                end += lengths.get(p);
                if (i < end) {
                    return p;
                }
            }
            return NONE;
        }

        int pinnedPages() {
            int pinned = 0;
            for (int p = 0; p < pageCount; p++) {
                pinned += pins.get(p) == NONE ? 0 : 1;
            }
            return pinned;
        }

        int smallestValue() {
            int smallest = NONE;
            for (int i = 0; i < valueCount; i++) {
                smallest = i == 0 ? values.get(i) : Math.min(smallest, values.get(i));
            }
            return smallest;
        }

        int greatestValue() {
            int greatest = NONE;
            for (int i = 0; i < valueCount; i++) {
                greatest = Math.max(greatest, values.get(i));
            }
            return greatest;
        }

        int differentValues() {
            int different = 0;
            for (int i = 0; i < valueCount; i++) {
                different += placeOf(values.get(i)) == i ? 1 : 0;
            }
            return different;
        }

        /** Where the value stands for the first time; NONE if it is not there. */
        int placeOf(int v) {
            for (int i = 0; i < valueCount; i++) {
                if (values.get(i) == v) {
                    return i;
                }
            }
            return NONE;
        }

        int timesOf(int v) {
            int times = 0;
            for (int i = 0; i < valueCount; i++) {
                times += values.get(i) == v ? 1 : 0;
            }
            return times;
        }

        // Sizes and scans.

        PageMeasure measurePage(int p) {
            return measureValues(firstOf(p), lengthOf(p));
        }

        /** Measures a row of values as a page; what it answers holds until the next measuring. */
        private PageMeasure measureValues(int from, int count) {
            measure.start();
            for (int i = 0; i < count && i < PAGE_ROOM; i++) {
                measure.include(values.get(from + i));
            }
            return measure;
        }

        int codingOf(int p) {
            return measurePage(p).codingWhen(pinOf(p));
        }

        int sizeOf(int p) {
            return measurePage(p).sizeWhen(pinOf(p));
        }

        int totalSize() {
            int bits = 0;
            int first = 0;
            for (int p = 0; p < pageCount; p++) {
                bits += measureValues(first, lengthOf(p)).sizeWhen(pinOf(p));
                first += lengthOf(p);
            }
            return bits;
        }

        int differentCodings() {
            int seen = 0;
            for (int p = 0; p < pageCount; p++) {
                seen |= 1 << codingOf(p);
            }
            return Integer.bitCount(seen);
        }

        int scanCost(int v) {
            int cost = 0;
            for (int p = 0; p < pageCount; p++) {
                PageMeasure page = measurePage(p);
                cost++;
                if (v >= page.smallest && v <= page.greatest) {
                    cost += searchCost(page, pinOf(p), v);
                }
            }
            return cost;
        }

        /** What it costs to look into a page that may have the value. */
        private int searchCost(PageMeasure page, int pin, int v) {
            switch (page.codingWhen(pin)) {
                case WORDS:
                    int number = page.numberOfWord(v);
                    return number == NONE ? page.wordCount : number + 1 + page.count;
                case RUNS:
                    return page.runCount;
                default:
                    return page.count;
            }
        }

        // Cuts and merges that may come.

        /** The size of both parts of a page, cut behind its first k values. */
        int sizeOfParts(int p, int k) {
            int first = firstOf(p);
            return measureValues(first, k).sizeWhen(pinOf(p))
                    + measureValues(first + k, lengthOf(p) - k).sizeWhen(pinOf(p));
        }

        boolean canJoin(int p) {
            return hasNext(p) && lengthOf(p) + lengthOf(p + 1) <= PAGE_ROOM;
        }

        /** The pin of a page and the one behind it together. */
        private int joinedPin(int p) {
            return pinOf(p) == pinOf(p + 1) ? pinOf(p) : NONE;
        }

        /** By how many bits a join makes the column smaller; NONE if it is not possible. */
        int savedByJoin(int p) {
            if (!canJoin(p)) {
                return NONE;
            }
            int first = firstOf(p);
            int here = lengthOf(p);
            int behind = lengthOf(p + 1);
            return measureValues(first, here).sizeWhen(pinOf(p))
                    + measureValues(first + here, behind).sizeWhen(pinOf(p + 1))
                    - measureValues(first, here + behind).sizeWhen(joinedPin(p));
        }

        // Changes. Their callers have asked whether they are possible.

        private boolean lastPageHasRoom() {
            return pageCount > 0 && lengthOf(pageCount - 1) < limit;
        }

        boolean canAppend() {
            return lastPageHasRoom() || !isFull();
        }

        /** Adds a value behind all others; answers its page. */
        int appendValue(int v) {
            if (!lastPageHasRoom()) {
                openPage(pageCount, 0, NONE);
            }
            int p = pageCount - 1;
            values.set(valueCount, v);
            valueCount++;
            lengths.set(p, lengthOf(p) + 1);
            return p;
        }

        /** Adds a page behind all others; answers its number. */
        int appendPage(Row row, int count) {
            openPage(pageCount, count, NONE);
            for (int i = 0; i < count && i < PAGE_ROOM; i++) {
                values.set(valueCount, row.get(i));
                valueCount++;
            }
            return pageCount - 1;
        }

        private void openPage(int p, int length, int pin) {
            lengths.insertAt(p, length);
            pins.insertAt(p, pin);
            pageCount++;
        }

        private void closePage(int p) {
            lengths.removeAt(p);
            pins.removeAt(p);
            pageCount--;
        }

        int changeValue(int i, int v) {
            int previous = values.get(i);
            values.set(i, v);
            return previous;
        }

        int dropValue(int i) {
            int p = pageOf(i);
            int dropped = values.get(i);
            values.removeAt(i);
            valueCount--;
            lengths.set(p, lengthOf(p) - 1);
            if (lengthOf(p) == 0) {
                closePage(p);
            }
            return dropped;
        }

        void splitPage(int p, int k) {
            openPage(p + 1, lengthOf(p) - k, pinOf(p));
            lengths.set(p, k);
        }

        void joinPages(int p) {
            pins.set(p, joinedPin(p));
            lengths.set(p, lengthOf(p) + lengthOf(p + 1));
            closePage(p + 1);
        }

        /** Joins the first pages with which that saves bits, again and again; answers how often. */
        int joinWhileItSaves() {
            for (int joins = 0; joins < MOST_PAGES; joins++) {
                int p = 0;
                while (p < pageCount && savedByJoin(p) <= 0) {
                    p++;
                }
                if (p >= pageCount) {
                    return joins;
                }
                joinPages(p);
            }
            return MOST_PAGES;
        }

        void pinPage(int p, int coding) {
            pins.set(p, coding);
        }
    }

    /** Places for whole columns, made once. */
    private static final class Shelf {
        private final Column[] columns;
        private final Row filled;

        Shelf(int places) {
            columns = new Column[places > 0 ? places : 0];
            for (int i = 0; i < columns.length; i++) {
                columns[i] = new Column();
            }
            filled = new Row(places);
        }

        boolean isFilled(int place) {
            return filled.get(place) == 1;
        }

        void store(int place, Column column) {
            Column kept = columnAt(place);
            if (kept != null) {
                kept.copyFrom(column);
                filled.set(place, 1);
            }
        }

        void fetch(int place, Column column) {
            Column kept = columnAt(place);
            if (kept != null) {
                column.copyFrom(kept);
            }
        }

        private Column columnAt(int place) {
            return place >= 0 && place < columns.length ? columns[place] : null;
        }
    }

    /** The states that are remembered, in a ring: the newest one takes the place of the oldest. */
    private static final class History {
        private final Shelf states = new Shelf(MOST_REMEMBERED);
        private int next;
        private int count;

        void remember(Column column) {
            states.store(next, column);
            next = (next + 1) % MOST_REMEMBERED;
            count = Math.min(count + 1, MOST_REMEMBERED);
        }

        /** Puts the newest state into the column; answers how many are left. */
        int takeBack(Column column) {
            next = (next + MOST_REMEMBERED - 1) % MOST_REMEMBERED;
            states.fetch(next, column);
            count--;
            return count;
        }

        void forgetAll() {
            count = 0;
        }
    }

    /** Writes the code of a page as a row of bits. */
    private static final class PageWriter {
        private final Row bits = new Row(MOST_CODE_BITS);
        private int length;

        void writePage(Column column, int p) {
            PageMeasure measure = column.measurePage(p);
            int coding = measure.codingWhen(column.pinOf(p));
            int first = column.firstOf(p);
            length = 0;
            writeNumber(coding, CODING_BITS);
            writeNumber(measure.count, COUNT_BITS);
            switch (coding) {
                case WORDS:
                    writeWords(column, first, measure);
                    break;
                case RUNS:
                    writeRuns(column, first, measure.count);
                    break;
                case SMALL:
                    writeSmall(column, first, measure);
                    break;
                case STEPS:
                    writeSteps(column, first, measure);
                    break;
                default:
                    writePlain(column, first, measure.count);
                    break;
            }
        }

        private void writeNumber(int number, int width) {
            for (int place = width - 1; place >= 0; place--) {
                bits.set(length, (number >> place) & 1);
                length++;
            }
        }

        private void writePlain(Column column, int first, int count) {
            for (int i = 0; i < count; i++) {
                writeNumber(column.valueAt(first + i), VALUE_BITS);
            }
        }

        private void writeWords(Column column, int first, PageMeasure measure) {
            writeNumber(measure.wordCount, COUNT_BITS);
            for (int i = 0; i < measure.wordCount; i++) {
                writeNumber(measure.wordAt(i), VALUE_BITS);
            }
            for (int i = 0; i < measure.count; i++) {
                int number = measure.numberOfWord(column.valueAt(first + i));
                writeNumber(number, measure.wordWidth);
            }
        }

        private void writeRuns(Column column, int first, int count) {
            int runStart = first;
            for (int i = first; i < first + count; i++) {
                int v = column.valueAt(i);
                if (i == first + count - 1 || column.valueAt(i + 1) != v) {
                    writeNumber(v, VALUE_BITS);
                    writeNumber(i + 1 - runStart, COUNT_BITS);
                    runStart = i + 1;
                }
            }
        }

        private void writeSmall(Column column, int first, PageMeasure measure) {
            writeNumber(measure.smallest, VALUE_BITS);
            writeNumber(measure.smallWidth, COUNT_BITS);
            for (int i = 0; i < measure.count; i++) {
                writeNumber(column.valueAt(first + i) - measure.smallest, measure.smallWidth);
            }
        }

        /** The lowest bits of a step below 0 are those of the step plus 2^w. */
        private void writeSteps(Column column, int first, PageMeasure measure) {
            writeNumber(column.valueAt(first), VALUE_BITS);
            writeNumber(measure.stepWidth, COUNT_BITS);
            for (int i = first + 1; i < first + measure.count; i++) {
                writeNumber(column.valueAt(i) - column.valueAt(i - 1), measure.stepWidth);
            }
        }
    }

    /** The text buffer, and the page that was read from it. */
    private static final class PageText {
        private final Row characters = new Row(TEXT_ROOM);
        private final Row values = new Row(PAGE_ROOM);
        private final Row words = new Row(PAGE_ROOM);
        private int length;
        private int count;
        private int position;
        private int errorAt;

        boolean isFull() {
            return length >= TEXT_ROOM;
        }

        int addCharacter(int c) {
            characters.set(length, c);
            length++;
            return length;
        }

        int makeEmpty() {
            int previous = length;
            length = 0;
            return previous;
        }

        /** Reads the text from its start; answers the error position, NONE if it is a page. */
        int readPage() {
            position = 0;
            errorAt = NONE;
            int coding = readNumber(CODING_BITS, PLAIN, STEPS);
            count = readNumber(COUNT_BITS, 1, PAGE_ROOM);
            switch (coding) {
                case WORDS:
                    readWords();
                    break;
                case RUNS:
                    readRuns();
                    break;
                case SMALL:
                    readSmall();
                    break;
                case STEPS:
                    readSteps();
                    break;
                default:
                    readPlain();
                    break;
            }
            if (errorAt == NONE && position < length) {
                errorAt = position;
            }
            return errorAt;
        }

        /**
         * Reads a number that must be from low to high. Behind the first error it reads nothing
         * and answers low, so that the readers may go on with a number that is allowed.
         */
        private int readNumber(int width, int low, int high) {
            int number = 0;
            for (int left = width - 1; left >= 0 && errorAt == NONE; left--) {
                int digit = digitHere();
                // The least and the greatest number that begin with this digit and those before it.
                int least = (2 * number + digit) << left;
                int greatest = least + (1 << left) - 1;
                if (digit == NONE || least > high || greatest < low) {
                    errorAt = position;
                } else {
                    number = 2 * number + digit;
                    position++;
                }
            }
            return errorAt == NONE ? number : low;
        }

        /** The digit at the position, NONE if there is none. */
        private int digitHere() {
            if (position >= length) {
                return NONE;
            }
            int c = characters.get(position);
            if (c == '0') {
                return 0;
            }
            return c == '1' ? 1 : NONE;
        }

        private int readValue() {
            return readNumber(VALUE_BITS, 0, GREATEST_VALUE);
        }

        private void readPlain() {
            for (int i = 0; i < count; i++) {
                values.set(i, readValue());
            }
        }

        private void readWords() {
            int wordCount = readNumber(COUNT_BITS, 1, count);
            for (int i = 0; i < wordCount; i++) {
                words.set(i, readValue());
            }
            int width = widthOf(wordCount - 1);
            for (int i = 0; i < count; i++) {
                values.set(i, words.get(readNumber(width, 0, wordCount - 1)));
            }
        }

        private void readRuns() {
            int value = 0;
            int runEnd = 0;
            for (int i = 0; i < count; i++) {
                if (i == runEnd) {
                    value = readValue();
                    runEnd = i + readNumber(COUNT_BITS, 1, count - i);
                }
                values.set(i, value);
            }
        }

        private void readSmall() {
            int smallest = readValue();
            int width = readNumber(COUNT_BITS, 0, VALUE_BITS);
            for (int i = 0; i < count; i++) {
                values.set(i, smallest + readNumber(width, 0, GREATEST_VALUE - smallest));
            }
        }

        private void readSteps() {
            int value = readValue();
            int width = readNumber(COUNT_BITS, 1, MOST_STEP_BITS);
            values.set(0, value);
            for (int i = 1; i < count; i++) {
                value += readStep(width, value);
                values.set(i, value);
            }
        }

        /**
         * Reads a step from a value. Its first bit is the sign, and -1 can be written with every
         * width, so that a step below 0 is allowed from every value but 0.
         */
        private int readStep(int width, int value) {
            int half = 1 << (width - 1);
            boolean below = readNumber(1, 0, value > 0 ? 1 : 0) == 1;
            if (below) {
                return readNumber(width - 1, Math.max(half - value, 0), half - 1) - half;
            }
            return readNumber(width - 1, 0, GREATEST_VALUE - value);
        }
    }

    /** Carries out the commands of a script on a copy of a column. */
    private static final class Script {
        private final Column column = new Column();

        void startFrom(Column other) {
            column.copyFrom(other);
        }

        /** Whether the command succeeds that the six digits of this group tell. */
        boolean succeeds(int group) {
            int rest = group % 100000;
            int p = rest / 10000;
            switch (group / 100000) {
                case 1:
                    return p == 0 && addsValue(rest);
                case 2:
                    return putsValue(rest / 1000, rest % 1000);
                case 3:
                    return rest % 1000 == 0 && removesValue(rest / 1000);
                case 4:
                    return rest % 100 == 0 && cutsPage(p, rest / 100 % 100);
                case 5:
                    return rest % 10000 == 0 && mergesPages(p);
                case 6:
                    if (rest == 0) {
                        column.joinWhileItSaves();
                    }
                    return rest == 0;
                case 7:
                    return p == 0 && column.totalSize() <= rest;
                case 8:
                    return rest % 1000 == 0 && column.hasPage(p)
                            && column.codingOf(p) == rest / 1000 % 10;
                case 9:
                    return p == 0 && rest % 10 == 0 && column.placeOf(rest / 10) != NONE;
                default:
                    return false;
            }
        }

        private boolean addsValue(int v) {
            if (!isValue(v) || !column.canAppend()) {
                return false;
            }
            column.appendValue(v);
            return true;
        }

        private boolean putsValue(int i, int v) {
            if (!column.hasValue(i) || !isValue(v)) {
                return false;
            }
            column.changeValue(i, v);
            return true;
        }

        private boolean removesValue(int i) {
            if (!column.hasValue(i)) {
                return false;
            }
            column.dropValue(i);
            return true;
        }

        private boolean cutsPage(int p, int k) {
            if (!column.hasPage(p) || !column.hasCut(p, k) || column.isFull()) {
                return false;
            }
            column.splitPage(p, k);
            return true;
        }

        private boolean mergesPages(int p) {
            if (!column.canJoin(p)) {
                return false;
            }
            column.joinPages(p);
            return true;
        }
    }
}
