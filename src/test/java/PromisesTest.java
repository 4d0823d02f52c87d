/**
 * The promises of the document one by one: ordinary inputs, edges, wrong inputs. That a refused call
 * changes nothing is looked at in RefusedCallsTest.
 */
public final class PromisesTest {
    private static final int MIN = Integer.MIN_VALUE;
    private static final int MAX = Integer.MAX_VALUE;
    private static final Checks checks = new Checks();

    public static void main(String[] args) {
        newObject();
        spawn();
        fork();
        exit();
        drop();
        load();
        store();
        storeIntoShared();
        storeThatCanNotBe();
        copy();
        copyThatThrows();
        copied();
        where();
        sharers();
        isThere();
        marked();
        hand();
        freeFrames();
        freeSlots();
        faults();
        evicted();
        checks.end();
    }

    private static void due(String what, Object want, Object got) {
        checks.due(what, want, got);
    }

    /** An object with process 0 there, which has sheets with the words page + 1 in its first pages. */
    private static ForkedSheets withPages(int frames, int slots, int pages) {
        ForkedSheets x = new ForkedSheets(frames, slots);
        x.spawn();
        for (int page = 0; page < pages; page++) {
            x.store(0, 4 * page, page + 1);
        }
        return x;
    }

    private static void newObject() {
        int[][] sizes = {
            {2, 0, 2, 0}, {8, 10, 8, 10}, {5, 4, 5, 4}, {1, -1, 2, 0}, {9, 11, 8, 10},
            {3, 1, 3, 1}, {7, 9, 7, 9}, {0, 0, 2, 0}, {MIN, MIN, 2, 0}, {MAX, MAX, 8, 10}};
        for (int[] s : sizes) {
            ForkedSheets x = new ForkedSheets(s[0], s[1]);
            String name = "new ForkedSheets(" + s[0] + ", " + s[1] + ")";
            due(name + " frames", s[2], x.freeFrames());
            due(name + " slots", s[3], x.freeSlots());
            for (int p = 0; p < 6; p++) {
                due(name + " isThere", false, x.isThere(p));
            }
            due(name + " hand", 0, x.hand());
            due(name + " faults", 0, x.faults());
            due(name + " evicted", 0, x.evicted());
            due(name + " copied", 0, x.copied());
        }
        ForkedSheets a = withPages(2, 0, 2);
        ForkedSheets b = new ForkedSheets(2, 0);
        due("objects have nothing in common", "not there", b.isThere(0) ? "there" : "not there");
        due("frames of the one", 0, a.freeFrames());
        due("frames of the other", 2, b.freeFrames());
    }

    private static void spawn() {
        ForkedSheets x = new ForkedSheets(4, 4);
        for (int p = 0; p < 6; p++) {
            due("spawn", p, x.spawn());
            due("where", ForkedSheets.EMPTY, x.where(p, 5));
        }
        checks.illegalState("spawn when all are there", x::spawn);
        x.store(4, 0, 9);
        x.exit(4);
        x.exit(2);
        due("spawn takes the lowest", 2, x.spawn());
        due("spawn takes the next", 4, x.spawn());
        due("pages are empty again", 0, x.load(4, 0));
        due("pages have no sheet again", ForkedSheets.EMPTY, x.where(4, 0));
    }

    private static void fork() {
        ForkedSheets x = withPages(2, 2, 3);
        checks.noSuchElement("fork of none", () -> x.fork(1));
        checks.noSuchElement("fork below", () -> x.fork(-1));
        checks.noSuchElement("fork above", () -> x.fork(6));
        checks.noSuchElement("fork far below", () -> x.fork(MIN));
        checks.noSuchElement("fork far above", () -> x.fork(MAX));
        int faults = x.faults();
        due("fork", 1, x.fork(0));
        due("fork is no fault", faults, x.faults());
        for (int page = 0; page < 6; page++) {
            due("same place, frame or slot", x.where(0, page), x.where(1, page));
            due("both have it", page < 3 ? 2 : 0, x.sharers(1, page));
        }
        due("a sheet in a slot stays there", 100, x.where(1, 0));
        due("fork of a fork", 2, x.fork(1));
        due("all three have it", 3, x.sharers(0, 2));
        x.exit(1);
        due("fork takes the lowest", 1, x.fork(2));
        while (!x.isThere(5)) {
            x.spawn();
        }
        checks.illegalState("fork when all are there", () -> x.fork(0));
        checks.noSuchElement("fork of none when all are there", () -> x.fork(6));
    }

    private static void exit() {
        ForkedSheets x = withPages(2, 2, 3);
        checks.noSuchElement("exit of none", () -> x.exit(1));
        checks.noSuchElement("exit below", () -> x.exit(-1));
        checks.noSuchElement("exit above", () -> x.exit(6));
        x.fork(0);
        x.store(1, 20, 7);
        due("only its own sheet is none", 1, x.exit(1));
        due("it is not there", false, x.isThere(1));
        checks.noSuchElement("exit twice", () -> x.exit(1));
        due("the other one keeps its words", 3, x.load(0, 8));
        due("nobody shares any more", 1, x.sharers(0, 0));
        due("all its sheets are none, in frames and slots", 3, x.exit(0));
        due("frames", 2, x.freeFrames());
        due("slots", 2, x.freeSlots());
        due("marks of free frames", "false false", x.marked(0) + " " + x.marked(1));
        x.spawn();
        due("exit without a sheet", 0, x.exit(0));
    }

    private static void drop() {
        ForkedSheets x = withPages(2, 2, 3);
        checks.noSuchElement("drop of none", () -> x.drop(1, 0));
        checks.noSuchElement("drop of none and no page", () -> x.drop(-1, 6));
        checks.outOfBounds("drop below", () -> x.drop(0, -1));
        checks.outOfBounds("drop above", () -> x.drop(0, 6));
        checks.outOfBounds("drop far above", () -> x.drop(0, MAX));
        x.fork(0);
        int frame = x.where(0, 2);
        due("drop of a shared one", false, x.drop(0, 2));
        due("it is empty", ForkedSheets.EMPTY, x.where(0, 2));
        due("its frame is still marked", true, x.marked(frame));
        due("drop of the last", true, x.drop(1, 2));
        due("its frame is not marked", false, x.marked(frame));
        due("its frame is free", 1, x.freeFrames());
        due("drop of an empty one", false, x.drop(1, 2));
        x.drop(0, 0);
        due("drop from a slot", true, x.drop(1, 0));
        due("its slot is free", 2, x.freeSlots());
        due("a dropped page loads 0", 0, x.load(0, 0));
        due("the last page", false, x.drop(0, 5));
    }

    private static void load() {
        ForkedSheets x = withPages(2, 2, 3);
        checks.noSuchElement("load of none", () -> x.load(1, 0));
        checks.noSuchElement("load of none and no address", () -> x.load(6, 24));
        checks.outOfBounds("load below", () -> x.load(0, -1));
        checks.outOfBounds("load above", () -> x.load(0, 24));
        checks.outOfBounds("load far below", () -> x.load(0, MIN));
        String before = Checks.state(x);
        due("load of an empty page", 0, x.load(0, 23));
        due("nothing else happens", before, Checks.state(x));
        due("the other words of a sheet", 0, x.load(0, 11));
        // Sheet 0 lies in slot 0, sheets 1 and 2 in frames 1 (not marked) and 0; the hand is at 1.
        due("load from a slot", 1, x.load(0, 0));
        due("it was brought in", 1, x.where(0, 0));
        due("what was evicted lies in the slot that went free", 100, x.where(0, 1));
        due("its frame is marked", true, x.marked(1));
        due("the hand", 0, x.hand());
        x.drop(0, 2);
        due("load with a free frame", 2, x.load(0, 4));
        due("it lies in that frame", 0, x.where(0, 1));
        due("the hand stays", 0, x.hand());
        due("the slot is free", 2, x.freeSlots());
        due("nothing was evicted for it", 2, x.evicted());
    }

    private static void store() {
        ForkedSheets x = new ForkedSheets(2, 2);
        checks.noSuchElement("store of none", () -> x.store(0, 0, 1));
        checks.noSuchElement("store of none and no address", () -> x.store(-1, -1, 1));
        x.spawn();
        checks.outOfBounds("store below", () -> x.store(0, -1, 1));
        checks.outOfBounds("store above", () -> x.store(0, 24, 1));
        x.store(0, 23, 0);
        due("a stored 0 makes a sheet, too", 0, x.where(0, 5));
        due("it is marked", true, x.marked(0));
        x.store(0, 23, MIN);
        x.store(0, 20, MAX);
        due("no sheet is made again", 1, x.faults());
        due("last word", MIN, x.load(0, 23));
        due("first word", MAX, x.load(0, 20));
        due("between", 0, x.load(0, 21));
        x.store(0, 0, 1);
        x.store(0, 4, 2);
        due("page 5 lies in a slot", 100, x.where(0, 5));
        x.store(0, 22, 6);
        due("it was brought in", 1, x.where(0, 5));
        due("its other words are as before", MIN, x.load(0, 23));
        due("its new word", 6, x.load(0, 22));
        x.drop(0, 5);
        x.store(0, 20, 0);
        due("a new sheet's words are 0", 0, x.load(0, 22));
    }

    private static void storeIntoShared() {
        ForkedSheets x = withPages(2, 3, 3);
        x.store(0, 3, 8);
        x.fork(0);
        // Now page 0 lies in frame 1, page 1 in slot 0, page 2 in frame 0 (marked both); the hand is at 0.
        due("page 1 before", 100, x.where(0, 1));
        x.store(1, 5, 7);
        due("the shared sheet is not brought in", 100, x.where(0, 1));
        due("the own one lies in the frame that was got", 0, x.where(1, 1));
        due("what was evicted for it", 101, x.where(1, 2));
        due("its other words are those of the shared one", 2, x.load(1, 4));
        due("its new word", 7, x.load(1, 5));
        due("nobody shares it", "1 1", x.sharers(0, 1) + " " + x.sharers(1, 1));
        due("one fault for it", 5, x.faults());

        // The hand is at frame 1 where page 0 lies, its mark gone: so it is evicted for its own copy.
        due("hand", 1, x.hand());
        x.store(1, 0, 9);
        due("the shared sheet was evicted", 102, x.where(0, 0));
        due("the own one lies in its frame", 1, x.where(1, 0));
        due("words of the evicted one went over", 8, x.load(1, 3));
        due("the other one has the old word", 1, x.load(0, 0));
    }

    private static void storeThatCanNotBe() {
        ForkedSheets x = withPages(2, 1, 3);
        checks.illegalState("store into an empty page", () -> x.store(0, 12, 1));
        checks.illegalState("store of 0, too", () -> x.store(0, 12, 0));
        checks.outOfBounds("address first", () -> x.store(0, 24, 0));
        x.store(0, 0, 5);
        due("into a page in a slot it can be", 5, x.load(0, 0));
        x.fork(0);
        for (int page = 0; page < 3; page++) {
            int address = 4 * page;
            checks.illegalState("store into a shared page", () -> x.store(1, address, 1));
        }
        x.exit(0);
        x.store(1, 4, 6);
        due("when it is shared no more it can be", 6, x.load(1, 4));

        ForkedSheets y = withPages(2, 0, 2);
        checks.illegalState("store without slots", () -> y.store(0, 8, 1));
        y.drop(0, 0);
        y.store(0, 8, 1);
        due("a free frame will do", 0, y.where(0, 2));
    }

    private static void copy() {
        ForkedSheets x = new ForkedSheets(6, 0);
        x.spawn();
        for (int i = 0; i < 4; i++) {
            x.store(0, i, i + 1);
        }
        x.copy(0, 0, 1, 6);
        for (int i = 0; i < 7; i++) {
            due("overlap upwards, address " + i, 1, x.load(0, i));
        }
        for (int i = 0; i < 8; i++) {
            x.store(0, i, i + 1);
        }
        x.copy(0, 2, 0, 6);
        int[] moved = {3, 4, 5, 6, 7, 8, 7, 8};
        for (int i = 0; i < 8; i++) {
            due("overlap downwards, address " + i, moved[i], x.load(0, i));
        }
        x.copy(0, 23, 23, 1);
        due("an empty page onto itself has a sheet then", 2, x.where(0, 5));
        due("a word 0", 0, x.load(0, 23));
        x.copy(0, 0, 0, 24);
        due("all addresses", 24, x.copied());
        due("all pages have a sheet", 0, x.freeFrames());
        due("words onto themselves", 8, x.load(0, 7));
        x.fork(0);
        due("copy of nothing", "done", Checks.answer(() -> x.copy(1, 0, 1, 0)));
        due("leaves pages shared", 2, x.sharers(1, 0));

        // Each word is loaded before the next is stored: loads mark the frame of the page they come from.
        ForkedSheets y = withPages(2, 3, 3);
        y.copy(0, 0, 4, 1);
        due("from", 1, y.load(0, 4));
        due("loaded first: page 0 came into frame 1", 1, y.where(0, 0));
        due("stored then: page 1 came into frame 0", 0, y.where(0, 1));
        due("page 2 went out", 100, y.where(0, 2));
    }

    private static void copyThatThrows() {
        ForkedSheets x = withPages(2, 1, 3);
        x.copy(0, 0, 1, 2);
        due("copied before", 2, x.copied());
        int[][] outside = {
            {0, 0, -1}, {0, 0, MIN}, {-1, 0, 1}, {0, -1, 1}, {24, 0, 1}, {0, 24, 1}, {20, 0, 5}, {0, 20, 5},
            {0, 0, 25}, {0, 0, MAX}, {MAX, 0, 1}, {0, MAX, MAX}, {MIN, 0, MAX}, {23, 23, MAX}, {99, 0, -1}};
        for (int[] o : outside) {
            String name = "copy(0, " + o[0] + ", " + o[1] + ", " + o[2] + ")";
            checks.outOfBounds(name, () -> x.copy(0, o[0], o[1], o[2]));
            checks.noSuchElement("of none: " + name, () -> x.copy(1, o[0], o[1], o[2]));
        }
        checks.outOfBounds("bounds before state", () -> x.copy(0, 0, 12, 13));
        checks.noSuchElement("no process, no words", () -> x.copy(-1, 0, 0, 0));
        due("no words have no addresses", "done", Checks.answer(() -> x.copy(0, MAX, MIN, 0)));

        x.drop(0, 1);
        x.store(0, 7, 9);
        x.store(0, 11, 4);
        // Three sheets fill all: the store into page 3 can't be, the one into page 2 before it can.
        checks.illegalState("copy", () -> x.copy(0, 7, 11, 2));
        due("one word before", 1, x.copied());
        due("stays copied", 9, x.load(0, 11));
        due("page 3 is empty", ForkedSheets.EMPTY, x.where(0, 3));

        ForkedSheets y = withPages(2, 1, 3);
        due("page 0 in the slot", 100, y.where(0, 0));
        checks.illegalState("copy from a slot", () -> y.copy(0, 0, 12, 4));
        due("what was loaded stays loaded", 1, y.where(0, 0));
        due("that was a fault", 4, y.faults());
        due("and marked", true, y.marked(1));
    }

    private static void copied() {
        ForkedSheets x = withPages(2, 0, 2);
        due("no copy yet", 0, x.copied());
        x.copy(0, 0, 4, 3);
        due("three", 3, x.copied());
        checks.noSuchElement("no process", () -> x.copy(1, 0, 4, 2));
        checks.outOfBounds("no addresses", () -> x.copy(0, 0, 21, 4));
        due("still three", 3, x.copied());
        checks.illegalState("no frame", () -> x.copy(0, 0, 6, 4));
        due("the two before", 2, x.copied());
        checks.illegalState("no frame", () -> x.copy(0, 0, 8, 4));
        due("none before", 0, x.copied());
        x.copy(0, 0, 1, 5);
        x.copy(0, 0, 0, 0);
        due("no words", 0, x.copied());
    }

    private static void where() {
        ForkedSheets x = withPages(2, 10, 6);
        due("frame", "0 1", x.where(0, 4) + " " + x.where(0, 5));
        for (int page = 0; page < 4; page++) {
            due("slot", 100 + page, x.where(0, page));
        }
        x.drop(0, 1);
        x.drop(0, 2);
        x.store(0, 4, 1);
        due("evicted into the lowest free slot", 101, x.where(0, 4));
        x.fork(0);
        for (int page = 0; page < 6; page++) {
            x.store(1, 4 * page, 1);
        }
        boolean inLastSlot = false;
        for (int page = 0; page < 6; page++) {
            inLastSlot |= x.where(0, page) == 108 || x.where(1, page) == 108;
        }
        due("eleven sheets: two in frames, nine in slots", true, inLastSlot);
        int[][] none = {{0, -1}, {0, 6}, {2, 0}, {-1, 0}, {6, 0}, {MIN, MIN}, {MAX, MAX}, {0, MAX}};
        for (int[] n : none) {
            due("where(" + n[0] + ", " + n[1] + ")", ForkedSheets.EMPTY, x.where(n[0], n[1]));
            due("sharers(" + n[0] + ", " + n[1] + ")", 0, x.sharers(n[0], n[1]));
        }
        x.exit(1);
        due("not there any more", ForkedSheets.EMPTY, x.where(1, 0));
    }

    private static void sharers() {
        ForkedSheets x = withPages(3, 3, 1);
        due("own", 1, x.sharers(0, 0));
        due("empty", 0, x.sharers(0, 1));
        for (int p = 1; p < 6; p++) {
            x.fork(p - 1);
            due("forked", p + 1, x.sharers(0, 0));
        }
        x.store(3, 0, 4);
        due("written", 1, x.sharers(3, 0));
        due("one less", 5, x.sharers(0, 0));
        x.drop(4, 0);
        due("dropped", 0, x.sharers(4, 0));
        due("two less", 4, x.sharers(5, 0));
        x.exit(0);
        due("not there", 0, x.sharers(0, 0));
        due("three less", 3, x.sharers(5, 0));
        x.load(5, 0);
        due("loading leaves them", 3, x.sharers(5, 0));
    }

    private static void isThere() {
        ForkedSheets x = new ForkedSheets(2, 2);
        int[] none = {0, 5, 6, -1, MIN, MAX};
        for (int p : none) {
            due("isThere(" + p + ")", false, x.isThere(p));
        }
        x.spawn();
        x.fork(0);
        due("there", "true true false", x.isThere(0) + " " + x.isThere(1) + " " + x.isThere(2));
        x.exit(0);
        due("exited", "false true", x.isThere(0) + " " + x.isThere(1));
    }

    private static void marked() {
        ForkedSheets x = withPages(3, 3, 3);
        int[] none = {-1, 3, 8, MIN, MAX};
        for (int frame : none) {
            due("marked(" + frame + ")", false, x.marked(frame));
        }
        due("stored", "true true true", x.marked(0) + " " + x.marked(1) + " " + x.marked(2));
        x.store(0, 12, 1);
        due("the hand went round", "true false false", x.marked(0) + " " + x.marked(1) + " " + x.marked(2));
        x.load(0, 8);
        due("loaded", "true false true", x.marked(0) + " " + x.marked(1) + " " + x.marked(2));
        x.drop(0, 2);
        due("free", false, x.marked(2));
        x.fork(0);
        due("forked", "true false false", x.marked(0) + " " + x.marked(1) + " " + x.marked(2));
        x.store(1, 4, 2);
        due("only the own copy", "true false true", x.marked(0) + " " + x.marked(1) + " " + x.marked(2));
    }

    private static void hand() {
        ForkedSheets x = withPages(3, 3, 3);
        due("at first, with free frames", 0, x.hand());
        x.store(0, 12, 1);
        due("round and one on", 1, x.hand());
        x.load(0, 4);
        x.store(0, 16, 1);
        due("past the marked frame 1, takes frame 2, on to 0", 0, x.hand());
        due("frame 2 was got", 2, x.where(0, 4));
        due("the marked one stayed", 1, x.where(0, 1));
        due("its mark is gone", false, x.marked(1));
        x.exit(0);
        due("exit leaves it", 0, x.hand());
    }

    private static void freeFrames() {
        ForkedSheets x = withPages(3, 1, 2);
        due("one left", 1, x.freeFrames());
        x.fork(0);
        due("fork takes none", 1, x.freeFrames());
        x.store(1, 0, 1);
        due("none left", 0, x.freeFrames());
        x.store(1, 8, 1);
        due("evicted and taken", 0, x.freeFrames());
        x.exit(1);
        due("two are free", 2, x.freeFrames() + x.freeSlots());
    }

    private static void freeSlots() {
        ForkedSheets x = withPages(2, 2, 2);
        due("none taken", 2, x.freeSlots());
        x.store(0, 8, 1);
        due("one taken", 1, x.freeSlots());
        x.load(0, 0);
        due("brought in, another out", 1, x.freeSlots());
        x.store(0, 12, 1);
        due("all taken", 0, x.freeSlots());
        x.exit(0);
        due("all free", 2, x.freeSlots());
    }

    private static void faults() {
        ForkedSheets x = withPages(2, 2, 2);
        due("made", 2, x.faults());
        x.store(0, 1, 1);
        x.load(0, 4);
        x.load(0, 20);
        due("no more", 2, x.faults());
        x.store(0, 8, 1);
        due("made with eviction", 3, x.faults());
        x.fork(0);
        due("page 0 in a slot", 100, x.where(0, 0));
        x.load(1, 0);
        due("brought in, once for all that share it", 4, x.faults());
        x.load(0, 0);
        due("is in already", 4, x.faults());
        x.store(1, 0, 2);
        due("made for writing", 5, x.faults());
        checks.illegalState("can't be made", () -> x.store(0, 12, 1));
        due("is none", 5, x.faults());
        x.exit(0);
        due("exit leaves them", 5, x.faults());
    }

    private static void evicted() {
        ForkedSheets x = withPages(2, 2, 2);
        due("none", 0, x.evicted());
        x.store(0, 8, 1);
        due("for a sheet that is made", 1, x.evicted());
        x.load(0, 0);
        due("for a page that is brought in", 2, x.evicted());
        x.drop(0, 0);
        x.load(0, 4);
        due("not with a free frame", 2, x.evicted());
        x.exit(0);
        due("not by exit", 2, x.evicted());
    }
}
