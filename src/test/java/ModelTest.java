import java.util.ArrayList;
import java.util.List;

/** All promises, 1 to 29: long runs of calls, each answer held against that of Model. */
public final class ModelTest {
    private static final int RUNS = 150;
    private static final int CALLS = 512;
    private static final int EXTREME = 8;

    private final Expect expect;
    private final String run;
    private final CodedColumn column = new CodedColumn();
    private final Model model = new Model();
    private long x;
    private int calls;
    private int last;

    private ModelTest(Expect expect, int seed) {
        this.expect = expect;
        run = "run " + seed + ": ";
        x = seed;
    }

    public static void main(String[] args) {
        Expect expect = new Expect();
        for (int seed = 0; seed < RUNS; seed++) {
            new ModelTest(expect, seed).makeCalls();
            new ModelTest(expect, seed).readTexts();
        }
        expect.end();
    }

    private int below(int bound) {
        x = x * 6364136223846793005L + 1442695040888963407L;
        return (int) ((x >>> 33) % bound);
    }

    /** A number of the range, now and then just outside, seldom far outside. */
    private int near(int from, int to) {
        switch (below(30)) {
            case 0:
                return from - 1;
            case 1:
                return to + 1;
            case 2:
                return from;
            case 3:
                return to;
            case 4:
                return below(EXTREME) > 0 ? from : below(2) == 0 ? Integer.MIN_VALUE : Integer.MAX_VALUE;
            default:
                return from + below(Math.max(1, to - from + 1));
        }
    }

    /** A value that often is alike or near the last one, so that each coding is chosen. */
    private int value() {
        switch (below(7)) {
            case 0:
                last = below(1024);
                break;
            case 1:
            case 2:
                last = Math.min(1023, last + below(6));
                break;
            case 3:
                last = Math.max(0, last - below(6));
                break;
            case 4:
                List<Integer> all = model.state.all();
                last = all.isEmpty() ? 0 : all.get(below(all.size()));
                break;
            case 5:
                last = below(4) == 0 ? 1023 * below(2) : last;
                break;
            default:
                break;
        }
        return below(40) == 0 ? near(0, 1023) : last;
    }

    private int pageNumber() {
        return near(0, model.state.pages.size() - 1);
    }

    private int valueNumber() {
        return near(0, model.state.all().size() - 1);
    }

    private void same(String call, Expect.Call got, Expect.Call want) {
        calls++;
        expect.tell(run + "call " + calls + ": " + call, Expect.outcome(want), Expect.outcome(got));
    }

    private void makeCalls() {
        while (calls < CALLS - 180) {
            int kind = below(100);
            if (kind < 45) {
                act();
            } else if (kind < 80) {
                look();
            } else if (kind < 90) {
                tellWhatWouldBe();
            } else if (kind < 95) {
                scriptOrSlot();
            } else if (kind < 97) {
                read();
            }
        }
    }

    private void readTexts() {
        while (calls < CALLS - 180) {
            read();
        }
    }

    private void act() {
        int p = pageNumber();
        int i = valueNumber();
        int v = value();
        switch (below(14)) {
            case 0:
                same("put(" + i + ", " + v + ")", () -> column.put(i, v), () -> model.put(i, v));
                break;
            case 1:
                same("remove(" + i + ")", () -> column.remove(i), () -> model.remove(i));
                break;
            case 2:
                int k = near(1, model.state.pages.isEmpty() ? 1 : model.state.pages.get(0).values.size());
                same("cut(" + p + ", " + k + ")", () -> column.cut(p, k), () -> model.cut(p, k));
                break;
            case 3:
                same("merge(" + p + ")", () -> column.merge(p), () -> model.merge(p));
                break;
            case 4:
                if (below(3) == 0) {
                    same("compact()", column::compact, model::compact);
                }
                break;
            case 5:
                int coding = below(2) == 0 ? CodedColumn.NONE : near(0, 4);
                same("pin(" + p + ", " + coding + ")", () -> column.pin(p, coding), () -> model.pin(p, coding));
                break;
            case 6:
                int limit = near(1, 12);
                same("setLimit(" + limit + ")", () -> column.setLimit(limit), () -> model.setLimit(limit));
                break;
            case 7:
                for (int times = below(6) == 0 ? below(17) : 1; times > 0; times--) {
                    same("undo()", column::undo, model::undo);
                }
                break;
            default:
                for (int times = below(6); times >= 0; times--) {
                    int next = value();
                    same("add(" + next + ")", () -> column.add(next), () -> model.add(next));
                }
                break;
        }
    }

    private void look() {
        int p = pageNumber();
        int i = valueNumber();
        int j = valueNumber();
        int v = value();
        int what = near(0, 8);
        switch (below(8)) {
            case 0:
                same("about(" + what + ")", () -> column.about(what), () -> model.about(what));
                break;
            case 1:
                same("at(" + i + ")", () -> column.at(i), () -> model.at(i));
                break;
            case 2:
            case 3:
                same("page(" + p + ", " + what + ")", () -> column.page(p, what), () -> model.page(p, what));
                break;
            case 4:
                int at = near(0, 90);
                same("bit(" + p + ", " + at + ")", () -> column.bit(p, at), () -> model.bit(p, at));
                break;
            case 5:
                int coding = near(0, 4);
                same("size(" + p + ", " + coding + ")", () -> column.size(p, coding), () -> model.size(p, coding));
                break;
            case 6:
                boolean times = below(3) == 0;
                same("scan(" + v + ", " + times + ")", () -> column.scan(v, times), () -> model.scan(v, times));
                break;
            default:
                same("sum(" + i + ", " + j + ")", () -> column.sum(i, j), () -> model.sum(i, j));
                break;
        }
    }

    private void tellWhatWouldBe() {
        int p = pageNumber();
        switch (below(8)) {
            case 0:
            case 1:
            case 2:
                same("gain(" + p + ")", () -> column.gain(p), () -> model.gain(p));
                break;
            case 3:
            case 4:
            case 5:
                same("bestCut(" + p + ")", () -> column.bestCut(p), () -> model.bestCut(p));
                break;
            case 6:
                same("smallest()", column::smallest, model::smallest);
                break;
            default:
                same("bestNext(" + p + ")", () -> column.bestNext(p), () -> model.bestNext(p));
                break;
        }
    }

    private void scriptOrSlot() {
        switch (below(6)) {
            case 0:
                int saved = near(0, 1);
                same("save(" + saved + ")", () -> column.save(saved), () -> model.save(saved));
                break;
            case 1:
                int restored = near(0, 1);
                same("restore(" + restored + ")", () -> column.restore(restored), () -> model.restore(restored));
                break;
            case 2:
                long seed = x;
                int m = near(1, 99);
                same("simulate(" + seed + ", " + m + ")", () -> column.simulate(seed, m), () -> model.simulate(seed, m));
                break;
            default:
                int n = near(1, 3);
                long script = script(Math.max(1, Math.min(3, n + (below(20) == 0 ? 1 : 0))));
                same("runScript(" + n + ", " + script + ")",
                    () -> column.runScript(n, script), () -> model.runScript(n, script));
                break;
        }
    }

    private long script(int n) {
        if (below(30) == 0) {
            return below(2) == 0 ? x : -1 - below(3);
        }
        long script = 0;
        for (int i = 0; i < n; i++) {
            script = script * 1000000 + group();
        }
        return script;
    }

    private int group() {
        int values = model.state.all().size();
        int pages = model.state.pages.size();
        int wild = below(8) == 0 ? 1 + below(99999) : 0;
        switch (below(10)) {
            case 0:
                return below(1000000);
            case 1:
                return 100000 + below(1100) + wild;
            case 2:
                return 200000 + 1000 * below(Math.min(values + 1, 100)) + below(1000);
            case 3:
                return 300000 + 1000 * below(Math.min(values + 1, 100)) + wild % 1000;
            case 4:
                return 400000 + 10000 * below(Math.min(pages + 1, 10)) + 100 * below(9) + wild % 100;
            case 5:
                return 500000 + 10000 * below(Math.min(pages + 1, 10)) + wild % 10000;
            case 6:
                return 600000 + wild;
            case 7:
                return 700000 + model.state.total() + below(9) - 4 + wild % 10 * 10000;
            case 8:
                int p = below(Math.min(pages + 1, 10));
                return 800000 + 10000 * p + 1000 * (p < pages && below(3) > 0 ? model.page(p, 2) : below(6)) + wild % 1000;
            default:
                int v = values == 0 || below(2) == 0 ? below(1000) : model.state.all().get(below(values));
                return 900000 + 10 * v % 100000 + wild % 10;
        }
    }

    /** Writes a page as text, most often with a fault in it, and asks what is wrong with it. */
    private void read() {
        StringBuilder code = new StringBuilder(freeCode());
        for (int faults = below(3); faults > 0; faults--) {
            int at = below(code.length());
            switch (below(4)) {
                case 0:
                    code.setLength(at + 1);
                    break;
                case 1:
                    code.append(below(2));
                    break;
                case 2:
                    code.setCharAt(at, (char) below(256));
                    break;
                default:
                    code.setCharAt(at, (char) ('0' + '1' - code.charAt(at)));
                    break;
            }
        }
        if (below(4) > 0) {
            same("clearText()", column::clearText, model::clearText);
        }
        for (int i = 0; i < code.length() && calls < CALLS - 4; i++) {
            int c = code.charAt(i);
            same("append(" + c + ")", () -> column.append(c), () -> model.append(c));
            if (below(12) == 0 && calls < CALLS - 4) {
                same("errorPosition()", column::errorPosition, model::errorPosition);
            }
        }
        int c = near(0, 255);
        if (c < 0 || c > 255) {
            same("append(" + c + ")", () -> column.append(c), () -> model.append(c));
        }
        same("errorPosition()", column::errorPosition, model::errorPosition);
        same("take()", column::take, model::take);
        same("about(3)", () -> column.about(3), () -> model.about(3));
    }

    /** A code that is allowed, but not always the one that would be written: wide, with spare words, short runs. */
    private String freeCode() {
        List<Integer> values = new ArrayList<>();
        for (int n = 1 + below(12); n > 0; n--) {
            values.add(Math.max(0, Math.min(1023, value())));
        }
        int coding = below(5);
        int n = values.size();
        StringBuilder code = new StringBuilder(Model.binary(coding, 3) + Model.binary(n, 4));
        if (below(2) == 0) {
            return Model.code(values, coding);
        }
        if (coding == 1) {
            int d = 1 + below(n);
            code.append(Model.binary(d, 4));
            for (int i = 0; i < d; i++) {
                code.append(Model.binary(values.get(i), 10));
            }
            for (int i = 0; i < n; i++) {
                code.append(Model.binary(below(d + below(8) / 7), Model.width(d - 1)));
            }
        } else if (coding == 2) {
            int left = n + below(8) / 7;
            while (left > 0) {
                int length = 1 + below(left);
                code.append(Model.binary(value(), 10)).append(Model.binary(length, 4));
                left -= length;
            }
        } else if (coding == 3) {
            int w = below(12);
            int least = 1023 - below(1 << Math.min(10, w + 1));
            code.append(Model.binary(least, 10)).append(Model.binary(w, 4));
            for (int i = 0; i < n; i++) {
                code.append(Model.binary(below(1024 - least + below(8) / 7), w));
            }
        } else if (coding == 4) {
            int w = below(13);
            code.append(Model.binary(below(2) == 0 ? below(8) : 1023 - below(8), 10)).append(Model.binary(w, 4));
            for (int i = 1; i < n; i++) {
                code.append(Model.binary(below(5) - 2, w));
            }
        } else {
            return Model.code(values, coding);
        }
        return code.toString();
    }
}
