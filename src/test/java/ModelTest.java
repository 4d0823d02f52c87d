import java.util.ArrayList;
import java.util.List;
import java.util.Map;
import java.util.NoSuchElementException;
import java.util.TreeMap;

/**
 * Runs of calls against a second program that is written as the document's terms say it: nothing is
 * kept that can be counted, so that a count or a place that goes astray in the class shows.
 */
public final class ModelTest {
    private static final int RUNS = 6000;
    /** With the ninety calls that ask for the state behind them, an object's 512 are kept. */
    private static final int MOST_CALLS = 400;
    private static final int SHOWN = 5;

    private static final class Sheet {
        final int[] words = new int[4];
    }

    private static final class Model {
        final Sheet[] frames;
        final Sheet[] slots;
        final boolean[] marks;
        final Sheet[][] pages = new Sheet[6][];
        int hand;
        int faults;
        int evicted;
        int copied;

        Model(int f, int s) {
            frames = new Sheet[f < 2 ? 2 : f > 8 ? 8 : f];
            slots = new Sheet[s < 0 ? 0 : s > 10 ? 10 : s];
            marks = new boolean[frames.length];
        }

        static int find(Object[] row, Object what) {
            for (int i = 0; i < row.length; i++) {
                if (row[i] == what) {
                    return i;
                }
            }
            return -1;
        }

        int count(Sheet sheet) {
            int n = 0;
            for (Sheet[] process : pages) {
                for (int i = 0; process != null && i < 6; i++) {
                    n += process[i] == sheet ? 1 : 0;
                }
            }
            return n;
        }

        /** Frees the places of sheets that no page has any more: how many there were. */
        int sweep() {
            int gone = 0;
            for (int i = 0; i < frames.length; i++) {
                if (frames[i] != null && count(frames[i]) == 0) {
                    frames[i] = null;
                    marks[i] = false;
                    gone++;
                }
            }
            for (int i = 0; i < slots.length; i++) {
                if (slots[i] != null && count(slots[i]) == 0) {
                    slots[i] = null;
                    gone++;
                }
            }
            return gone;
        }

        int getFrame() {
            int free = find(frames, null);
            if (free >= 0) {
                return free;
            }
            while (marks[hand]) {
                marks[hand] = false;
                hand = (hand + 1) % frames.length;
            }
            int got = hand;
            slots[find(slots, null)] = frames[got];
            frames[got] = null;
            evicted++;
            hand = (hand + 1) % frames.length;
            return got;
        }

        Sheet make() {
            if (find(frames, null) < 0 && find(slots, null) < 0) {
                throw new IllegalStateException();
            }
            Sheet sheet = new Sheet();
            frames[getFrame()] = sheet;
            faults++;
            return sheet;
        }

        void bringIn(Sheet sheet) {
            int slot = find(slots, sheet);
            if (slot >= 0) {
                slots[slot] = null;
                frames[getFrame()] = sheet;
                faults++;
            }
        }

        int newProcess() {
            int p = find(pages, null);
            if (p < 0) {
                throw new IllegalStateException();
            }
            return p;
        }

        void need(int p) {
            if (p < 0 || p > 5 || pages[p] == null) {
                throw new NoSuchElementException();
            }
        }

        void within(long low, long high, int limit) {
            if (low < 0 || high > limit) {
                throw new IndexOutOfBoundsException();
            }
        }

        int spawn() {
            int p = newProcess();
            pages[p] = new Sheet[6];
            return p;
        }

        int fork(int p) {
            need(p);
            int q = newProcess();
            pages[q] = pages[p].clone();
            return q;
        }

        int exit(int p) {
            need(p);
            pages[p] = null;
            return sweep();
        }

        boolean drop(int p, int page) {
            need(p);
            within(page, page, 5);
            pages[p][page] = null;
            return sweep() == 1;
        }

        int load(int p, int address) {
            need(p);
            within(address, address, 23);
            Sheet sheet = pages[p][address / 4];
            if (sheet == null) {
                return 0;
            }
            bringIn(sheet);
            marks[find(frames, sheet)] = true;
            return sheet.words[address % 4];
        }

        void store(int p, int address, int word) {
            need(p);
            within(address, address, 23);
            Sheet sheet = pages[p][address / 4];
            if (sheet == null) {
                sheet = make();
            } else if (count(sheet) > 1) {
                int[] words = sheet.words;
                sheet = make();
                System.arraycopy(words, 0, sheet.words, 0, 4);
            } else {
                bringIn(sheet);
            }
            pages[p][address / 4] = sheet;
            marks[find(frames, sheet)] = true;
            sheet.words[address % 4] = word;
        }

        void copy(int p, int from, int to, int n) {
            need(p);
            within(n, n, Integer.MAX_VALUE);
            if (n > 0) {
                within(from, (long) from + n - 1, 23);
                within(to, (long) to + n - 1, 23);
            }
            copied = 0;
            for (int i = 0; i < n; i++) {
                store(p, to + i, load(p, from + i));
                copied++;
            }
        }

        int where(Sheet sheet) {
            int frame = find(frames, sheet);
            return sheet == null ? -1 : frame >= 0 ? frame : 100 + find(slots, sheet);
        }

        /** As Checks.state tells it of the class. */
        String state() {
            StringBuilder s = new StringBuilder();
            for (Sheet[] process : pages) {
                s.append(process != null ? "there " : "not ");
                for (int page = 0; page < 6; page++) {
                    Sheet sheet = process == null ? null : process[page];
                    s.append(where(sheet)).append('*').append(sheet == null ? 0 : count(sheet)).append(' ');
                }
            }
            for (int frame = 0; frame < 8; frame++) {
                s.append(frame < marks.length && marks[frame] ? 'm' : '-');
            }
            s.append(" hand ").append(hand).append(" free ").append(free(frames)).append('/').append(free(slots));
            s.append(" faults ").append(faults).append(" evicted ").append(evicted);
            s.append(" copied ").append(copied);
            return s.toString();
        }

        static int free(Sheet[] row) {
            int n = 0;
            for (Sheet sheet : row) {
                n += sheet == null ? 1 : 0;
            }
            return n;
        }
    }

    private long seed;
    private final Map<String, Integer> seen = new TreeMap<>();

    private ModelTest(long seed) {
        this.seed = seed;
    }

    /** Numbers that are the same in every run of the test. */
    private int pick(int bound) {
        seed = seed * 6364136223846793005L + 1442695040888963407L;
        return (int) ((seed >>> 33) % bound);
    }

    /** Mostly one of 0 .. bound - 1, seldom one outside. */
    private int near(int bound) {
        int[] outside = {-1, bound, Integer.MIN_VALUE, Integer.MAX_VALUE};
        return pick(25) == 0 ? outside[pick(4)] : pick(bound);
    }

    /** One call, made on both: its answers, or the names of what they threw. */
    private record Made(String call, Object want, Object got) {
    }

    private static Made both(String call, Checks.Call onModel, Checks.Call onClass) {
        return new Made(call, Checks.answer(onModel), Checks.answer(onClass));
    }

    private static Made both(String call, Checks.Act onModel, Checks.Act onClass) {
        return new Made(call, Checks.answer(onModel), Checks.answer(onClass));
    }

    private Made anyCall(Model m, ForkedSheets x, int word) {
        int kind = pick(100);
        int p = near(6);
        int a = near(24);
        if (kind < 6) {
            return both("spawn()", () -> m.spawn(), () -> x.spawn());
        }
        if (kind < 14) {
            return both("fork(" + p + ")", () -> m.fork(p), () -> x.fork(p));
        }
        if (kind < 20) {
            return both("exit(" + p + ")", () -> m.exit(p), () -> x.exit(p));
        }
        if (kind < 30) {
            int page = near(6);
            return both("drop(" + p + ", " + page + ")", () -> m.drop(p, page), () -> x.drop(p, page));
        }
        if (kind < 55) {
            return both("load(" + p + ", " + a + ")", () -> m.load(p, a), () -> x.load(p, a));
        }
        if (kind < 85) {
            return both("store(" + p + ", " + a + ", " + word + ")",
                () -> m.store(p, a, word), () -> x.store(p, a, word));
        }
        int b = near(24);
        int n = pick(4) == 0 ? near(25) : pick(7);
        return both("copy(" + p + ", " + a + ", " + b + ", " + n + ")",
            () -> m.copy(p, a, b, n), () -> x.copy(p, a, b, n));
    }

    private void count(Made made) {
        String name = made.call.substring(0, made.call.indexOf('('));
        seen.merge(name + " " + (made.got instanceof String ? made.got : "a value"), 1, Integer::sum);
    }

    /** A run of any length, the whole state looked at behind it: what went astray, or null. */
    private String run(int run) {
        int frames = pick(12) - 1;
        int slots = pick(14) - 2;
        ForkedSheets x = new ForkedSheets(frames, slots);
        Model m = new Model(frames, slots);
        List<String> calls = new ArrayList<>();
        calls.add("new ForkedSheets(" + frames + ", " + slots + ")");
        int length = 1 + pick(MOST_CALLS);
        for (int i = 0; i < length; i++) {
            Made made = anyCall(m, x, run * MOST_CALLS + i);
            count(made);
            calls.add(made.call + " " + made.got);
            if (!made.want.equals(made.got)) {
                return calls + ": due is " + made.want;
            }
        }
        String got = Checks.state(x);
        return m.state().equals(got) ? null : calls + ": the state is " + got + ", due is " + m.state();
    }

    public static void main(String[] args) {
        ModelTest test = new ModelTest(20261115);
        int wrong = 0;
        for (int run = 0; run < RUNS && wrong < SHOWN; run++) {
            String fault = test.run(run);
            if (fault != null) {
                wrong++;
                System.out.println("run " + run + ": " + fault);
            }
        }
        System.out.println(RUNS + " runs, " + wrong + " went astray; answers seen: " + test.seen);
        if (wrong != 0) {
            System.exit(1);
        }
    }
}
