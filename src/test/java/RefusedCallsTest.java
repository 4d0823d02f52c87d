import java.util.function.Consumer;
import java.util.function.Supplier;

/**
 * Each call that the document refuses: which exception comes, which one first, and that nothing has
 * changed by it. What a refused call leaves is compared with a twin that never was asked.
 */
public final class RefusedCallsTest {
    private static final int MIN = Integer.MIN_VALUE;
    private static final int MAX = Integer.MAX_VALUE;
    private static final String NO_ELEMENT = "NoSuchElementException";
    private static final String BOUNDS = "IndexOutOfBoundsException";
    private static final String STATE = "IllegalStateException";

    /** In busy(): below and above all numbers, 2 and 3 exited, 5 never there. */
    private static final int[] NO_PROCESS = {-1, 6, MIN, MAX, 2, 3, 5};
    private static final int[] NO_PAGE = {-1, 6, MIN, MAX};
    private static final int[] NO_ADDRESS = {-1, 24, MIN, MAX};

    private static final Checks checks = new Checks();

    public static void main(String[] args) {
        spawnWhenAllAreThere();
        forkOfNoProcess();
        forkWhenAllAreThere();
        forkNamesTheProcessFirst();
        exitOfNoProcess();
        exitTwice();
        dropOfNoProcess();
        dropOfNoPage();
        loadOfNoProcess();
        loadOfNoAddress();
        storeOfNoProcess();
        storeOfNoAddress();
        storeIntoEmptyPageWhenFull();
        storeIntoSharedPageWhenFull();
        storeWithoutSlots();
        storeNamesTheStateLast();
        copyOfNoProcess();
        copyOfFewerThanNone();
        copyFromNoAddress();
        copyToNoAddress();
        copyNamesTheStateLast();
        copyThatStops();
        copyThatStopsAtOnce();
        copyThatStopsAtSharedPage();
        checks.end();
    }

    private static void due(String what, Object want, Object got) {
        checks.due(what, want, got);
    }

    private static void refused(
            String what, String exception, Supplier<ForkedSheets> setup, Consumer<ForkedSheets> call) {
        ForkedSheets x = setup.get();
        ForkedSheets twin = setup.get();
        due(what, exception, Checks.answer(() -> call.accept(x)));
        due("the state behind " + what, Checks.state(twin), Checks.state(x));
        due("the words behind " + what, words(twin), words(x));
        due("the state behind the words behind " + what, Checks.state(twin), Checks.state(x));
    }

    private static String words(ForkedSheets x) {
        StringBuilder s = new StringBuilder();
        for (int p = 0; p < 6; p++) {
            for (int address = 0; x.isThere(p) && address < 24; address++) {
                s.append(x.load(p, address)).append(' ');
            }
        }
        return s.toString();
    }

    /** Processes 0, 1 and 4; frames full, a slot taken and one free; a hand that moved; words copied. */
    private static ForkedSheets busy() {
        ForkedSheets x = new ForkedSheets(3, 2);
        for (int p = 0; p < 5; p++) {
            x.spawn();
        }
        for (int address = 0; address < 12; address++) {
            x.store(0, address, address + 50);
        }
        x.exit(1);
        x.fork(0);
        x.copy(0, 4, 1, 3);
        x.exit(2);
        x.exit(3);
        return x;
    }

    /** All six processes. */
    private static ForkedSheets crowded() {
        ForkedSheets x = busy();
        for (int i = 0; i < 3; i++) {
            x.fork(0);
        }
        return x;
    }

    /**
     * Process 0 has pages 0 and 1 in frames 1 and 0, page 2 in the only slot; all of them are shared
     * with process 1 when it is asked for. Nothing is free, two words were copied.
     */
    private static ForkedSheets full(boolean shared) {
        ForkedSheets x = new ForkedSheets(2, 1);
        x.spawn();
        x.store(0, 8, 30);
        x.store(0, 0, 10);
        x.store(0, 4, 20);
        x.copy(0, 0, 1, 2);
        if (shared) {
            x.fork(0);
        }
        return x;
    }

    private static ForkedSheets fullAlone() {
        return full(false);
    }

    private static ForkedSheets fullShared() {
        return full(true);
    }

    /** "IllegalStateException when all are there." */
    private static void spawnWhenAllAreThere() {
        refused("spawn", STATE, RefusedCallsTest::crowded, x -> x.spawn());
    }

    /** "NoSuchElementException, first, when p is not there" */
    private static void forkOfNoProcess() {
        for (int p : NO_PROCESS) {
            refused("fork(" + p + ")", NO_ELEMENT, RefusedCallsTest::busy, x -> x.fork(p));
        }
        refused("fork(0) of a new object", NO_ELEMENT, () -> new ForkedSheets(2, 2), x -> x.fork(0));
    }

    /** "IllegalStateException when all are there." */
    private static void forkWhenAllAreThere() {
        for (int p = 0; p < 6; p++) {
            int parent = p;
            refused("fork(" + p + ")", STATE, RefusedCallsTest::crowded, x -> x.fork(parent));
        }
    }

    /** "NoSuchElementException, first" */
    private static void forkNamesTheProcessFirst() {
        for (int p : new int[] {-1, 6, MIN, MAX}) {
            refused("fork(" + p + ") when all are there", NO_ELEMENT, RefusedCallsTest::crowded, x -> x.fork(p));
        }
    }

    /** "NoSuchElementException when it is not there." */
    private static void exitOfNoProcess() {
        for (int p : NO_PROCESS) {
            refused("exit(" + p + ")", NO_ELEMENT, RefusedCallsTest::busy, x -> x.exit(p));
        }
    }

    private static void exitTwice() {
        Supplier<ForkedSheets> setup = () -> {
            ForkedSheets x = busy();
            x.exit(0);
            return x;
        };
        refused("a second exit", NO_ELEMENT, setup, x -> x.exit(0));
    }

    /** "NoSuchElementException when p is not there", also when the page is none. */
    private static void dropOfNoProcess() {
        for (int p : NO_PROCESS) {
            refused("drop(" + p + ", 0)", NO_ELEMENT, RefusedCallsTest::busy, x -> x.drop(p, 0));
            for (int page : NO_PAGE) {
                String what = "drop(" + p + ", " + page + ")";
                refused(what, NO_ELEMENT, RefusedCallsTest::busy, x -> x.drop(p, page));
            }
        }
    }

    /** "IndexOutOfBoundsException when page is not 0 .. 5." */
    private static void dropOfNoPage() {
        for (int page : NO_PAGE) {
            refused("drop(0, " + page + ")", BOUNDS, RefusedCallsTest::busy, x -> x.drop(0, page));
        }
    }

    /** "NoSuchElementException when p is not there", also when the address is none. */
    private static void loadOfNoProcess() {
        for (int p : NO_PROCESS) {
            refused("load(" + p + ", 0)", NO_ELEMENT, RefusedCallsTest::busy, x -> x.load(p, 0));
            for (int a : NO_ADDRESS) {
                refused("load(" + p + ", " + a + ")", NO_ELEMENT, RefusedCallsTest::busy, x -> x.load(p, a));
            }
        }
    }

    /** "IndexOutOfBoundsException when address is not 0 .. 23." */
    private static void loadOfNoAddress() {
        for (int a : NO_ADDRESS) {
            refused("load(0, " + a + ")", BOUNDS, RefusedCallsTest::busy, x -> x.load(0, a));
        }
    }

    /** "NoSuchElementException when p is not there", also when the address is none. */
    private static void storeOfNoProcess() {
        for (int p : NO_PROCESS) {
            refused("store(" + p + ", 0, 7)", NO_ELEMENT, RefusedCallsTest::busy, x -> x.store(p, 0, 7));
            for (int a : NO_ADDRESS) {
                String what = "store(" + p + ", " + a + ", 7)";
                refused(what, NO_ELEMENT, RefusedCallsTest::busy, x -> x.store(p, a, 7));
            }
        }
    }

    /** "IndexOutOfBoundsException when address is not 0 .. 23" */
    private static void storeOfNoAddress() {
        for (int a : NO_ADDRESS) {
            refused("store(0, " + a + ", 7)", BOUNDS, RefusedCallsTest::busy, x -> x.store(0, a, 7));
        }
    }

    /** "IllegalStateException when a sheet is to be made and can't be": for an empty page. */
    private static void storeIntoEmptyPageWhenFull() {
        for (int word : new int[] {0, 7, MIN, MAX}) {
            String what = "store of " + word + " into an empty page";
            refused(what, STATE, RefusedCallsTest::fullAlone, x -> x.store(0, 12, word));
            refused(what, STATE, RefusedCallsTest::fullAlone, x -> x.store(0, 23, word));
        }
    }

    /** "IllegalStateException when a sheet is to be made and can't be": for one that is shared. */
    private static void storeIntoSharedPageWhenFull() {
        due("page 0 in a frame, 1 in the other, 2 in the slot", "1 0 100 -1 -1 -1", Checks.places(fullShared(), 1));
        for (int page = 0; page < 3; page++) {
            int address = 4 * page;
            String what = "store into shared page " + page;
            refused(what, STATE, RefusedCallsTest::fullShared, x -> x.store(1, address, 7));
            refused(what, STATE, RefusedCallsTest::fullShared, x -> x.store(0, address, 7));
            refused(what + " of the word that it has", STATE, RefusedCallsTest::fullShared,
                x -> x.store(1, address, 10 * (address / 4 + 1)));
        }
    }

    /** "when no frame and no slot is free it can't be made": with S = 0 as soon as the frames are full. */
    private static void storeWithoutSlots() {
        Supplier<ForkedSheets> setup = () -> {
            ForkedSheets x = new ForkedSheets(2, 0);
            x.spawn();
            x.store(0, 0, 1);
            x.store(0, 4, 2);
            return x;
        };
        refused("store into a third page", STATE, setup, x -> x.store(0, 8, 3));
    }

    /** "Of several exceptions the one that stands first in the throws clause is thrown." */
    private static void storeNamesTheStateLast() {
        refused("store of none, no address, full", NO_ELEMENT, RefusedCallsTest::fullAlone, x -> x.store(1, 24, 7));
        refused("store of none, full", NO_ELEMENT, RefusedCallsTest::fullAlone, x -> x.store(1, 12, 7));
        refused("store to no address, full", BOUNDS, RefusedCallsTest::fullAlone, x -> x.store(0, 24, 7));
        refused("store below all addresses, full", BOUNDS, RefusedCallsTest::fullAlone, x -> x.store(0, -1, 7));
    }

    /** "NoSuchElementException when p is not there", whatever the other arguments are. */
    private static void copyOfNoProcess() {
        int[][] others = {{0, 4, 2}, {0, 0, 0}, {0, 0, -1}, {-1, 0, 1}, {0, 24, 1}, {MIN, MAX, MAX}};
        for (int p : NO_PROCESS) {
            for (int[] o : others) {
                String what = "copy(" + p + ", " + o[0] + ", " + o[1] + ", " + o[2] + ")";
                refused(what, NO_ELEMENT, RefusedCallsTest::busy, x -> x.copy(p, o[0], o[1], o[2]));
            }
        }
    }

    /** "IndexOutOfBoundsException when n is below 0" */
    private static void copyOfFewerThanNone() {
        for (int n : new int[] {-1, -24, MIN + 1, MIN}) {
            refused("copy(0, 0, 4, " + n + ")", BOUNDS, RefusedCallsTest::busy, x -> x.copy(0, 0, 4, n));
            refused("copy(0, 23, 23, " + n + ")", BOUNDS, RefusedCallsTest::busy, x -> x.copy(0, 23, 23, n));
            refused("copy(0, -1, 24, " + n + ")", BOUNDS, RefusedCallsTest::busy, x -> x.copy(0, -1, 24, n));
        }
    }

    /** First address and number of words of which the first, the last or one between is none. */
    private static int[][] outside() {
        return new int[][] {
            {-1, 1}, {-1, 2}, {24, 1}, {23, 2}, {20, 5}, {1, 24}, {0, 25}, {-1, 25}, {MIN, 1}, {MAX, 1},
            {MAX, 2}, {0, MAX}, {1, MAX}, {23, MAX}, {MAX, MAX}, {MIN, MAX}, {-5, 10}};
    }

    /** "or one of the addresses is not 0 .. 23": of those that are loaded; no word is copied before. */
    private static void copyFromNoAddress() {
        for (int[] o : outside()) {
            int to = o[1] <= 24 ? 24 - o[1] : 0;
            if (o[1] <= 24) {
                String what = "copy(0, " + o[0] + ", " + to + ", " + o[1] + ")";
                refused(what, BOUNDS, RefusedCallsTest::busy, x -> x.copy(0, o[0], to, o[1]));
            }
            String what = "copy(0, " + o[0] + ", 0, " + o[1] + ")";
            refused(what, BOUNDS, RefusedCallsTest::busy, x -> x.copy(0, o[0], 0, o[1]));
        }
    }

    /** The same of those that are stored. */
    private static void copyToNoAddress() {
        for (int[] o : outside()) {
            String what = "copy(0, 0, " + o[0] + ", " + o[1] + ")";
            refused(what, BOUNDS, RefusedCallsTest::busy, x -> x.copy(0, 0, o[0], o[1]));
        }
    }

    /** "Of several exceptions the one that stands first": 12 is in an empty page and nothing is free. */
    private static void copyNamesTheStateLast() {
        refused("copy of none", NO_ELEMENT, RefusedCallsTest::fullAlone, x -> x.copy(1, 0, 12, 4));
        refused("copy to no address", BOUNDS, RefusedCallsTest::fullAlone, x -> x.copy(0, 0, 12, 13));
        refused("copy from no address", BOUNDS, RefusedCallsTest::fullAlone, x -> x.copy(0, 21, 12, 4));
        refused("copy of fewer than none", BOUNDS, RefusedCallsTest::fullAlone, x -> x.copy(0, 0, 12, -1));
    }

    /** "IllegalStateException when a sheet is to be made and can't be: what was copied before stays so." */
    private static void copyThatStops() {
        ForkedSheets x = fullAlone();
        due("before", "1 0 100 -1 -1 -1", Checks.places(x, 0));
        checks.illegalState("copy from page 0 over the end of page 2", () -> x.copy(0, 0, 10, 4));
        due("two words went before", 2, x.copied());
        due("the first", 10, x.load(0, 10));
        due("the second", 10, x.load(0, 11));
        due("the page behind is empty", ForkedSheets.EMPTY, x.where(0, 3));
        due("it loads 0", 0, x.load(0, 12));
        due("page 2 came in for page 0, which came in for page 1", "0 100 1 -1 -1 -1", Checks.places(x, 0));
        due("so two more faults", 5, x.faults());
    }

    /** "(and loaded)": the word that could not be stored was loaded, so its page is in and marked. */
    private static void copyThatStopsAtOnce() {
        ForkedSheets x = fullAlone();
        due("page 2 before", 100, x.where(0, 2));
        due("faults and evicted before", "3 1", x.faults() + " " + x.evicted());
        checks.illegalState("copy from the slot to an empty page", () -> x.copy(0, 8, 12, 1));
        due("no word went before", 0, x.copied());
        due("page 2 was loaded", true, x.where(0, 2) < 100);
        due("its frame is marked", true, x.marked(x.where(0, 2)));
        due("faults and evicted", "4 2", x.faults() + " " + x.evicted());
        due("page 3 is empty", ForkedSheets.EMPTY, x.where(0, 3));

        ForkedSheets y = fullAlone();
        String before = Checks.state(y).replace("copied 2", "copied 0");
        checks.illegalState("copy from an empty page to another", () -> y.copy(0, 16, 12, 4));
        due("loading it did nothing else, and none was copied", before, Checks.state(y));
    }

    /** The same where the page has a sheet that it does not have alone. */
    private static void copyThatStopsAtSharedPage() {
        ForkedSheets x = fullShared();
        x.drop(0, 0);
        due("page 0 is process 1's alone", 1, x.sharers(1, 0));
        checks.illegalState("copy over the end of page 0", () -> x.copy(1, 0, 3, 3));
        due("one word went before", 1, x.copied());
        due("it stays", 10, x.load(1, 3));
        due("page 1 is shared still", 2, x.sharers(1, 1));
        due("and has its words", 20, x.load(1, 4));
    }
}
