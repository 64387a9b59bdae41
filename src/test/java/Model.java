import java.util.ArrayDeque;
import java.util.ArrayList;
import java.util.Deque;
import java.util.LinkedHashSet;
import java.util.List;
import java.util.function.Supplier;

/**
 * The document once more, as plainly as can be: pages are lists, codes are texts of 0 and 1, sizes
 * are their lengths, and every copy is a whole copy. ModelTest holds CodedColumn against it.
 */
final class Model {
    static final int NONE = -9999;

    static final class Page {
        List<Integer> values = new ArrayList<>();
        int pin = NONE;

        Page(List<Integer> values, int pin) {
            this.values.addAll(values);
            this.pin = pin;
        }
    }

    static final class State {
        List<Page> pages = new ArrayList<>();
        int limit = 8;

        State copy() {
            State other = new State();
            other.limit = limit;
            for (Page page : pages) {
                other.pages.add(new Page(page.values, page.pin));
            }
            return other;
        }

        List<Integer> all() {
            List<Integer> all = new ArrayList<>();
            for (Page page : pages) {
                all.addAll(page.values);
            }
            return all;
        }

        int total() {
            int bits = 0;
            for (Page page : pages) {
                bits += code(page).length();
            }
            return bits;
        }
    }

    State state = new State();
    final Deque<State> remembered = new ArrayDeque<>();
    final State[] slots = new State[2];
    final StringBuilder text = new StringBuilder();

    // ---- codes

    static String binary(int number, int width) {
        StringBuilder bits = new StringBuilder();
        for (int i = 0; i < width; i++) {
            bits.insert(0, number & 1);
            number >>= 1;
        }
        return bits.toString();
    }

    static int width(int number) {
        return number == 0 ? 0 : Integer.toBinaryString(number).length();
    }

    static List<List<Integer>> runs(List<Integer> values) {
        List<List<Integer>> runs = new ArrayList<>();
        for (int v : values) {
            if (runs.isEmpty() || runs.get(runs.size() - 1).get(0) != v) {
                runs.add(new ArrayList<>());
            }
            runs.get(runs.size() - 1).add(v);
        }
        return runs;
    }

    static int min(List<Integer> values) {
        return values.stream().mapToInt(v -> v).min().orElse(NONE);
    }

    static int max(List<Integer> values) {
        return values.stream().mapToInt(v -> v).max().orElse(NONE);
    }

    static boolean stepsFit(List<Integer> values, int w) {
        for (int i = 1; i < values.size(); i++) {
            int step = values.get(i) - values.get(i - 1);
            if (step < -(1 << (w - 1)) || step > (1 << (w - 1)) - 1) {
                return false;
            }
        }
        return true;
    }

    static String code(List<Integer> values, int coding) {
        StringBuilder code = new StringBuilder(binary(coding, 3) + binary(values.size(), 4));
        if (coding == 0) {
            for (int v : values) {
                code.append(binary(v, 10));
            }
        } else if (coding == 1) {
            List<Integer> words = new ArrayList<>(new LinkedHashSet<>(values));
            code.append(binary(words.size(), 4));
            for (int word : words) {
                code.append(binary(word, 10));
            }
            for (int v : values) {
                code.append(binary(words.indexOf(v), width(words.size() - 1)));
            }
        } else if (coding == 2) {
            for (List<Integer> run : runs(values)) {
                code.append(binary(run.get(0), 10)).append(binary(run.size(), 4));
            }
        } else if (coding == 3) {
            int w = width(max(values) - min(values));
            code.append(binary(min(values), 10)).append(binary(w, 4));
            for (int v : values) {
                code.append(binary(v - min(values), w));
            }
        } else {
            int w = 1;
            while (!stepsFit(values, w)) {
                w++;
            }
            code.append(binary(values.get(0), 10)).append(binary(w, 4));
            for (int i = 1; i < values.size(); i++) {
                int step = values.get(i) - values.get(i - 1);
                code.append(binary(step < 0 ? step + (1 << w) : step, w));
            }
        }
        return code.toString();
    }

    static int coding(List<Integer> values, int pin) {
        if (pin != NONE) {
            return pin;
        }
        int best = 0;
        for (int coding = 1; coding <= 4; coding++) {
            if (code(values, coding).length() < code(values, best).length()) {
                best = coding;
            }
        }
        return best;
    }

    static int size(List<Integer> values, int pin) {
        return code(values, coding(values, pin)).length();
    }

    static String code(Page page) {
        return code(page.values, coding(page.values, page.pin));
    }

    // ---- text: every number that is allowed is written out, and the text must begin with one

    private int at;
    private boolean failed;
    List<Integer> read = new ArrayList<>();

    /** Reads one of these numbers, each written with this width. */
    private int number(int width, List<Integer> allowed) {
        if (failed) {
            return allowed.get(0);
        }
        String begin = "";
        for (int i = 0; i < width; i++) {
            String longer = begin + (at < text.length() ? text.charAt(at) : "end");
            boolean possible = false;
            for (int number : allowed) {
                possible |= binary(number, width).startsWith(longer);
            }
            if (!possible) {
                failed = true;
                return allowed.get(0);
            }
            begin = longer;
            at++;
        }
        return width == 0 ? 0 : Integer.parseInt(begin, 2);
    }

    private static List<Integer> range(int from, int to) {
        List<Integer> range = new ArrayList<>();
        for (int i = from; i <= to; i++) {
            range.add(i);
        }
        return range;
    }

    int errorPosition() {
        at = 0;
        failed = false;
        read = new ArrayList<>();
        List<Integer> any = range(0, 1023);
        int coding = number(3, range(0, 4));
        int n = number(4, range(1, 12));
        List<Integer> words = new ArrayList<>();
        int first = 0;
        int w = 0;
        if (coding == 1) {
            int d = number(4, range(1, n));
            for (int i = 0; i < d; i++) {
                words.add(number(10, any));
            }
        } else if (coding == 3 || coding == 4) {
            first = number(10, any);
            w = number(4, coding == 3 ? range(0, 10) : range(1, 11));
        }
        while (!failed && read.size() < n) {
            if (coding == 0) {
                read.add(number(10, any));
            } else if (coding == 1) {
                read.add(words.get(number(width(words.size() - 1), range(0, words.size() - 1))));
            } else if (coding == 2) {
                int v = number(10, any);
                int length = number(4, range(1, n - read.size()));
                for (int i = 0; i < length; i++) {
                    read.add(v);
                }
            } else if (coding == 3) {
                List<Integer> allowed = range(0, (1 << w) - 1);
                final int least = first;
                allowed.removeIf(more -> least + more > 1023);
                read.add(first + number(w, allowed));
            } else if (read.isEmpty()) {
                read.add(first);
            } else {
                int from = read.get(read.size() - 1);
                List<Integer> allowed = new ArrayList<>();
                for (int s = -(1 << (w - 1)); s < 1 << (w - 1); s++) {
                    if (from + s >= 0 && from + s <= 1023) {
                        allowed.add(s < 0 ? s + (1 << w) : s);
                    }
                }
                int written = number(w, allowed);
                read.add(from + (written >= 1 << (w - 1) ? written - (1 << w) : written));
            }
        }
        if (failed) {
            return at;
        }
        return at < text.length() ? at : NONE;
    }

    // ---- the calls

    private static void check(boolean holds, Supplier<RuntimeException> otherwise) {
        if (!holds) {
            throw otherwise.get();
        }
    }

    private static void checkPart(boolean holds) {
        check(holds, IndexOutOfBoundsException::new);
    }

    private static void checkArgument(boolean holds) {
        check(holds, IllegalArgumentException::new);
    }

    private static void checkState(boolean holds) {
        check(holds, IllegalStateException::new);
    }

    private Page page(int p) {
        checkPart(p >= 0 && p < state.pages.size());
        return state.pages.get(p);
    }

    private void checkValue(int i) {
        checkPart(i >= 0 && i < state.all().size());
    }

    private void remember() {
        remembered.addLast(state.copy());
        if (remembered.size() > 14) {
            remembered.removeFirst();
        }
    }

    int append(int c) {
        checkArgument(c >= 0 && c <= 255);
        checkState(text.length() < 160);
        text.append((char) c);
        return text.length();
    }

    int clearText() {
        int length = text.length();
        text.setLength(0);
        return length;
    }

    int about(int what) {
        checkArgument(what >= 0 && what <= 8);
        List<Integer> all = state.all();
        int pinned = 0;
        for (Page page : state.pages) {
            pinned += page.pin == NONE ? 0 : 1;
        }
        return new int[] {all.size(), state.pages.size(), state.limit, state.total(), 10 * all.size(), pinned,
            min(all), max(all), new LinkedHashSet<>(all).size()}[what];
    }

    int at(int i) {
        checkValue(i);
        return state.all().get(i);
    }

    int page(int p, int what) {
        Page page = page(p);
        checkArgument(what >= 0 && what <= 8);
        int first = 0;
        for (int before = 0; before < p; before++) {
            first += state.pages.get(before).values.size();
        }
        List<Integer> values = page.values;
        return new int[] {first, values.size(), coding(values, page.pin), code(page).length(), min(values),
            max(values), new LinkedHashSet<>(values).size(), runs(values).size(), page.pin}[what];
    }

    int bit(int p, int i) {
        String code = code(page(p));
        checkArgument(i >= 0);
        return i < code.length() ? code.charAt(i) - '0' : NONE;
    }

    int size(int p, int coding) {
        Page page = page(p);
        checkArgument(coding >= 0 && coding <= 4);
        return code(page.values, coding).length();
    }

    int scan(int v, boolean times) {
        checkArgument(v >= 0 && v <= 1023);
        int found = 0;
        int cost = 0;
        for (Page page : state.pages) {
            for (int other : page.values) {
                found += other == v ? 1 : 0;
            }
            cost++;
            if (v < min(page.values) || v > max(page.values)) {
                continue;
            }
            int coding = coding(page.values, page.pin);
            List<Integer> words = new ArrayList<>(new LinkedHashSet<>(page.values));
            if (coding == 1) {
                cost += words.contains(v) ? words.indexOf(v) + 1 + page.values.size() : words.size();
            } else {
                cost += coding == 2 ? runs(page.values).size() : page.values.size();
            }
        }
        return times ? found : cost;
    }

    int sum(int from, int to) {
        checkValue(from);
        checkValue(to);
        int sum = 0;
        for (int i = from; i <= to; i++) {
            sum += state.all().get(i);
        }
        return sum;
    }

    int add(int v) {
        checkArgument(v >= 0 && v <= 1023);
        int last = state.pages.size() - 1;
        boolean fits = last >= 0 && state.pages.get(last).values.size() < state.limit;
        checkState(fits || last + 1 < 10);
        remember();
        if (!fits) {
            state.pages.add(new Page(List.of(), NONE));
            last++;
        }
        state.pages.get(last).values.add(v);
        return last;
    }

    int put(int i, int v) {
        checkValue(i);
        checkArgument(v >= 0 && v <= 1023);
        remember();
        int left = i;
        for (Page page : state.pages) {
            if (left < page.values.size()) {
                return page.values.set(left, v);
            }
            left -= page.values.size();
        }
        return NONE;
    }

    int remove(int i) {
        checkValue(i);
        remember();
        int left = i;
        for (Page page : state.pages) {
            if (left < page.values.size()) {
                int v = page.values.remove(left);
                state.pages.removeIf(other -> other.values.isEmpty());
                return v;
            }
            left -= page.values.size();
        }
        return NONE;
    }

    int cut(int p, int k) {
        Page page = page(p);
        checkArgument(k >= 1 && k <= page.values.size() - 1);
        checkState(state.pages.size() < 10);
        remember();
        cutNow(state, p, k);
        return state.total();
    }

    private static void cutNow(State state, int p, int k) {
        Page page = state.pages.get(p);
        List<Integer> values = page.values;
        state.pages.add(p + 1, new Page(values.subList(k, values.size()), page.pin));
        page.values = new ArrayList<>(values.subList(0, k));
    }

    private static boolean canMerge(State state, int p) {
        return p + 1 < state.pages.size()
            && state.pages.get(p).values.size() + state.pages.get(p + 1).values.size() <= 12;
    }

    private static void mergeNow(State state, int p) {
        Page behind = state.pages.remove(p + 1);
        Page page = state.pages.get(p);
        page.values.addAll(behind.values);
        page.pin = page.pin == behind.pin ? page.pin : NONE;
    }

    int merge(int p) {
        page(p);
        checkPart(p + 1 < state.pages.size());
        checkState(canMerge(state, p));
        remember();
        mergeNow(state, p);
        return state.total();
    }

    int compact() {
        remember();
        int merges = 0;
        boolean again = true;
        while (again) {
            again = false;
            for (int p = 0; p < state.pages.size() && !again; p++) {
                State tried = state.copy();
                if (canMerge(tried, p)) {
                    mergeNow(tried, p);
                    again = tried.total() < state.total();
                }
                if (again) {
                    state = tried;
                    merges++;
                }
            }
        }
        return merges;
    }

    int pin(int p, int coding) {
        Page page = page(p);
        checkArgument(coding == NONE || coding >= 0 && coding <= 4);
        remember();
        page.pin = coding;
        return code(page).length();
    }

    int setLimit(int v) {
        checkArgument(v >= 1 && v <= 12);
        remember();
        int previous = state.limit;
        state.limit = v;
        return previous;
    }

    int take() {
        checkState(errorPosition() == NONE);
        checkState(state.pages.size() < 10);
        remember();
        state.pages.add(new Page(read, NONE));
        return coding(read, NONE);
    }

    int undo() {
        checkState(!remembered.isEmpty());
        state = remembered.removeLast();
        return remembered.size();
    }

    int gain(int p) {
        page(p);
        State tried = state.copy();
        if (!canMerge(tried, p)) {
            return NONE;
        }
        mergeNow(tried, p);
        return state.total() - tried.total();
    }

    int bestCut(int p) {
        page(p);
        int best = NONE;
        int least = Integer.MAX_VALUE;
        for (int k = 1; k < state.pages.get(p).values.size(); k++) {
            State tried = state.copy();
            cutNow(tried, p, k);
            if (tried.total() < least) {
                least = tried.total();
                best = k;
            }
        }
        return best;
    }

    int smallest() {
        List<Integer> all = state.all();
        int[] least = new int[all.size() + 1];
        for (int end = 1; end <= all.size(); end++) {
            least[end] = Integer.MAX_VALUE;
            for (int from = Math.max(0, end - 12); from < end; from++) {
                least[end] = Math.min(least[end], least[from] + size(all.subList(from, end), NONE));
            }
        }
        return least[all.size()];
    }

    int bestNext(int p) {
        Page page = page(p);
        if (page.values.size() == 12) {
            return NONE;
        }
        int best = 0;
        int least = Integer.MAX_VALUE;
        for (int v = 0; v <= 1023; v++) {
            List<Integer> values = new ArrayList<>(page.values);
            values.add(v);
            int bits = size(values, page.pin);
            if (bits < least) {
                least = bits;
                best = v;
            }
        }
        return best;
    }

    /** A model that starts with the state of this one. */
    private Model twin() {
        Model twin = new Model();
        twin.state = state.copy();
        return twin;
    }

    int runScript(int n, long script) {
        checkArgument(n >= 1 && n <= 3);
        checkArgument(script >= 0);
        StringBuilder digits = new StringBuilder(Long.toString(script));
        checkArgument(digits.length() <= 6 * n);
        while (digits.length() < 6 * n) {
            digits.insert(0, '0');
        }
        Model twin = twin();
        for (int i = 0; i < n; i++) {
            if (!twin.succeeds(digits.substring(6 * i, 6 * i + 6))) {
                return i;
            }
        }
        return NONE;
    }

    private boolean succeeds(String group) {
        try {
            if (group.matches("10....")) {
                add(Integer.parseInt(group.substring(2)));
            } else if (group.matches("2.....")) {
                put(Integer.parseInt(group.substring(1, 3)), Integer.parseInt(group.substring(3)));
            } else if (group.matches("3..000")) {
                remove(Integer.parseInt(group.substring(1, 3)));
            } else if (group.matches("4...00")) {
                cut(group.charAt(1) - '0', Integer.parseInt(group.substring(2, 4)));
            } else if (group.matches("5.0000")) {
                merge(group.charAt(1) - '0');
            } else if (group.matches("600000")) {
                compact();
            } else if (group.matches("70....")) {
                return state.total() <= Integer.parseInt(group.substring(2));
            } else if (group.matches("8..000")) {
                Page page = page(group.charAt(1) - '0');
                return coding(page.values, page.pin) == group.charAt(2) - '0';
            } else if (group.matches("90...0")) {
                return state.all().contains(Integer.parseInt(group.substring(2, 5)));
            } else {
                return false;
            }
            return true;
        } catch (IndexOutOfBoundsException | IllegalArgumentException | IllegalStateException e) {
            return false;
        }
    }

    int simulate(long seed, int m) {
        checkArgument(m >= 1 && m <= 99);
        Model twin = twin();
        long x = seed;
        for (int i = 0; i < m; i++) {
            x = x * 6364136223846793005L + 1442695040888963407L;
            int r = (int) (x >>> 33);
            List<Integer> all = twin.state.all();
            int last = all.isEmpty() ? 0 : all.get(all.size() - 1);
            int v = last;
            if (r % 4 == 0) {
                v = r / 4 % 1024;
            } else if (r % 4 == 2) {
                v = Math.min(1023, last + r / 4 % 8);
            } else if (r % 4 == 3) {
                v = Math.max(0, last - r / 4 % 8);
            }
            try {
                twin.add(v);
            } catch (IllegalStateException e) {
                twin.compact();
            }
        }
        LinkedHashSet<Integer> codings = new LinkedHashSet<>();
        for (Page page : twin.state.pages) {
            codings.add(coding(page.values, page.pin));
        }
        return 10 * twin.state.total() + codings.size();
    }

    int save(int slot) {
        checkPart(slot == 0 || slot == 1);
        slots[slot] = state.copy();
        return state.all().size();
    }

    int restore(int slot) {
        checkPart(slot == 0 || slot == 1);
        checkState(slots[slot] != null);
        state = slots[slot].copy();
        remembered.clear();
        return state.all().size();
    }
}
