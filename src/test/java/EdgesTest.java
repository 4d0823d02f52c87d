/**
 * The sentences of the promises that name a boundary case and refuse nothing there: too small, too
 * large, empty, full, the first and the last. What is refused stands in RefusedCallsTest.
 */
public final class EdgesTest {
    private static final int MIN = Integer.MIN_VALUE;
    private static final int MAX = Integer.MAX_VALUE;
    private static final int EMPTY = ForkedSheets.EMPTY;
    private static final Checks checks = new Checks();

    public static void main(String[] args) {
        fewerFramesThanTwo();
        moreFramesThanEight();
        framesAsAsked();
        fewerSlotsThanNone();
        moreSlotsThanTen();
        slotsAsAsked();
        noProcessIsThereAtFirst();
        spawnUpToTheLast();
        spawnIntoGaps();
        spawnGivesEmptyPages();
        forkUpToTheLast();
        forkIntoGaps();
        forkOfNoSheets();
        forkNeedsNoPlace();
        exitOfNoSheets();
        exitOfSixSheets();
        exitOfSharedSheets();
        exitGivesTheNumberBack();
        dropOfEmptyPage();
        dropOfFirstAndLastPage();
        dropOfSharedPage();
        loadOfFirstAndLastAddress();
        storeOfFirstAndLastAddress();
        storeOfAnyWord();
        copyOfNoWords();
        copyOfNoWordsWhenFull();
        copyOfAllWords();
        copyOfLastWord();
        copyUpwardsOverlapping();
        copyDownwardsOverlapping();
        copyOntoItself();
        copyOfEmptyPages();
        copyOfSharedPage();
        copyBringsInWhereItGoes();
        copyPushesOutWhereItComesFrom();
        copiedAtFirst();
        copiedByTheLatest();
        copiedWhenRefused();
        copiedWhenStopped();
        whereNoPageIs();
        whereFirstAndLastPlacesAre();
        sharersFromNoneToSix();
        isThereOfFirstAndLast();
        markedOfNoFrame();
        markedOfLastFrame();
        freeFramesFromAllToNone();
        freeSlotsFromAllToNone();
        faultsAreOnlyWhatIsSaid();
        evictedAreOnlyWhatIsSaid();
        questionsChangeNothing();
        lastOfAllCalls();
        checks.end();
    }

    private static void due(String what, Object want, Object got) {
        checks.due(what, want, got);
    }

    private static void words(String what, ForkedSheets x, int... want) {
        for (int a = 0; a < want.length; a++) {
            due(what + ": address " + a, want[a], x.load(0, a));
        }
    }

    /** Process 0 is there, and its first pages have sheets, made one after the other. */
    private static ForkedSheets withPages(int frames, int slots, int pages) {
        ForkedSheets x = new ForkedSheets(frames, slots);
        x.spawn();
        for (int page = 0; page < pages; page++) {
            x.store(0, 4 * page, page + 1);
        }
        return x;
    }

    /** Process 0 has the words 1, 2, 3 .. at its first addresses, and room for all pages. */
    private static ForkedSheets withWords(int words) {
        ForkedSheets x = new ForkedSheets(6, 0);
        x.spawn();
        for (int a = 0; a < words; a++) {
            x.store(0, a, a + 1);
        }
        return x;
    }

    /** Frames and slots are counted by what they hold, not by what the object tells of them. */
    private static void holds(int frames, int slots, int wantFrames, int wantSlots) {
        String name = "new ForkedSheets(" + frames + ", " + slots + ")";
        ForkedSheets x = new ForkedSheets(frames, slots);
        due(name + " free frames", wantFrames, x.freeFrames());
        due(name + " free slots", wantSlots, x.freeSlots());
        int made = 0;
        int beforeEviction = 0;
        for (int i = 0; i < 36 && made == i; i++) {
            if (i % 6 == 0) {
                x.spawn();
            }
            int p = i / 6;
            int address = i % 6 * 4;
            if (Checks.answer(() -> x.store(p, address, 1)).equals("done")) {
                made++;
            }
            if (x.evicted() == 0) {
                beforeEviction = made;
            }
        }
        due(name + " sheets in frames", wantFrames, beforeEviction);
        due(name + " sheets in all", wantFrames + wantSlots, made);
    }

    /** "F is frames, but 2 when that is less" */
    private static void fewerFramesThanTwo() {
        for (int frames : new int[] {1, 0, -1, -2, -8, MIN}) {
            holds(frames, 3, 2, 3);
        }
    }

    /** "and 8 when it is more" */
    private static void moreFramesThanEight() {
        for (int frames : new int[] {9, 10, 100, MAX}) {
            holds(frames, 3, 8, 3);
        }
    }

    private static void framesAsAsked() {
        for (int frames = 2; frames <= 8; frames++) {
            holds(frames, 1, frames, 1);
        }
    }

    /** "S is slots, but 0 when that is less" */
    private static void fewerSlotsThanNone() {
        for (int slots : new int[] {-1, -2, -10, MIN}) {
            holds(3, slots, 3, 0);
        }
    }

    /** "and 10 when it is more" */
    private static void moreSlotsThanTen() {
        for (int slots : new int[] {11, 12, 100, MAX}) {
            holds(3, slots, 3, 10);
        }
        holds(MAX, MAX, 8, 10);
        holds(MIN, MIN, 2, 0);
        holds(MAX, MIN, 8, 0);
        holds(MIN, MAX, 2, 10);
    }

    private static void slotsAsAsked() {
        for (int slots = 0; slots <= 10; slots++) {
            holds(2, slots, 2, slots);
            holds(8, slots, 8, slots);
        }
    }

    /** "No process is there." */
    private static void noProcessIsThereAtFirst() {
        ForkedSheets x = new ForkedSheets(2, 2);
        for (int p = 0; p < 6; p++) {
            due("isThere(" + p + ")", false, x.isThere(p));
        }
    }

    /** "IllegalStateException when all are there": the sixth is still given. */
    private static void spawnUpToTheLast() {
        ForkedSheets x = new ForkedSheets(2, 2);
        for (int p = 0; p < 6; p++) {
            due("spawn", p, x.spawn());
            due("isThere", true, x.isThere(p));
            due("the next is not", false, x.isThere(p + 1));
        }
        checks.illegalState("a seventh", x::spawn);
        x.exit(5);
        due("the last again", 5, x.spawn());
    }

    /** "The lowest process that is not there" */
    private static void spawnIntoGaps() {
        ForkedSheets x = new ForkedSheets(2, 2);
        for (int p = 0; p < 6; p++) {
            x.spawn();
        }
        x.exit(4);
        x.exit(0);
        x.exit(3);
        due("first gap", 0, x.spawn());
        due("second gap", 3, x.spawn());
        due("third gap", 4, x.spawn());
        checks.illegalState("no gap", x::spawn);
    }

    /** "all its pages empty", also when the number was given before */
    private static void spawnGivesEmptyPages() {
        ForkedSheets x = withPages(2, 4, 6);
        x.fork(0);
        x.exit(0);
        due("the number again", 0, x.spawn());
        for (int page = 0; page < 6; page++) {
            due("where", EMPTY, x.where(0, page));
            due("sharers", 0, x.sharers(0, page));
            due("the other one has them alone", 1, x.sharers(1, page));
        }
        words("empty", x, new int[24]);
    }

    /** "IllegalStateException when all are there": the sixth is still forked. */
    private static void forkUpToTheLast() {
        ForkedSheets x = withPages(2, 0, 1);
        for (int p = 1; p < 6; p++) {
            due("fork", p, x.fork(p - 1));
            due("its word", 1, x.load(p, 0));
        }
        checks.illegalState("a seventh", () -> x.fork(5));
        x.exit(5);
        due("the last again", 5, x.fork(0));
    }

    /** "The lowest process that is not there", which may be below the one that is forked */
    private static void forkIntoGaps() {
        ForkedSheets x = new ForkedSheets(2, 0);
        for (int p = 0; p < 6; p++) {
            x.spawn();
        }
        x.store(5, 0, 9);
        x.exit(3);
        x.exit(0);
        due("first gap", 0, x.fork(5));
        due("second gap", 3, x.fork(5));
        due("words", "9 9", x.load(0, 0) + " " + x.load(3, 0));
        due("sharers", 3, x.sharers(5, 0));
    }

    /** A process all of whose pages are empty has no sheets to share. */
    private static void forkOfNoSheets() {
        ForkedSheets x = withPages(2, 0, 0);
        due("fork", 1, x.fork(0));
        due("there", true, x.isThere(1));
        due("places", "-1 -1 -1 -1 -1 -1", Checks.places(x, 1));
        x.store(0, 0, 1);
        due("what the first makes later is its own", 1, x.sharers(0, 0));
        due("the second has none of it", EMPTY, x.where(1, 0));
    }

    /** "(wherever they lie; no fault)": also when nothing is free */
    private static void forkNeedsNoPlace() {
        ForkedSheets x = withPages(2, 1, 3);
        String marks = Checks.marks(x, 2);
        due("nothing is free", "0 0", x.freeFrames() + " " + x.freeSlots());
        due("fork", 1, x.fork(0));
        due("places", "100 1 0 -1 -1 -1", Checks.places(x, 1));
        due("places of the first", "100 1 0 -1 -1 -1", Checks.places(x, 0));
        due("marks", marks, Checks.marks(x, 2));
        due("faults, evicted, hand", "3 1 1", x.faults() + " " + x.evicted() + " " + x.hand());
    }

    /** "how many sheets are none by that": none */
    private static void exitOfNoSheets() {
        ForkedSheets x = withPages(2, 0, 0);
        due("never stored", 0, x.exit(0));
        due("not there", false, x.isThere(0));
    }

    /** All six pages, in frames and in slots */
    private static void exitOfSixSheets() {
        ForkedSheets x = withPages(2, 4, 6);
        due("in frames and slots", 6, x.exit(0));
        due("all free", "2 4", x.freeFrames() + " " + x.freeSlots());
        ForkedSheets y = withPages(8, 0, 6);
        due("in frames", 6, y.exit(0));
        due("all free", "8 0", y.freeFrames() + " " + y.freeSlots());
    }

    /** A sheet that another has, too, stays. */
    private static void exitOfSharedSheets() {
        ForkedSheets x = withPages(6, 2, 3);
        x.fork(0);
        x.store(1, 0, 7);
        x.store(1, 20, 8);
        due("its own two", 2, x.exit(1));
        x.fork(0);
        due("the first goes, the second has all", 0, x.exit(0));
        due("words", "1 2 3", x.load(1, 0) + " " + x.load(1, 4) + " " + x.load(1, 8));
        due("the second goes", 3, x.exit(1));
        due("all free", "6 2", x.freeFrames() + " " + x.freeSlots());
    }

    /** "(its number may be given again)" */
    private static void exitGivesTheNumberBack() {
        ForkedSheets x = withPages(2, 0, 2);
        for (int i = 0; i < 20; i++) {
            due("fork", 1, x.fork(0));
            due("exit", 0, x.exit(1));
            due("spawn", 1, x.spawn());
            due("exit", 0, x.exit(1));
        }
        due("alone again", "1 1", x.sharers(0, 0) + " " + x.sharers(0, 1));
    }

    /** "A page of process p is empty then (also if it was): whether a sheet is none by that." */
    private static void dropOfEmptyPage() {
        ForkedSheets x = withPages(2, 1, 3);
        String before = Checks.state(x);
        for (int page = 3; page < 6; page++) {
            due("never stored", false, x.drop(0, page));
        }
        due("nothing has changed", before, Checks.state(x));
        due("dropped", true, x.drop(0, 0));
        due("dropped twice", false, x.drop(0, 0));
    }

    /** "when page is not 0 .. 5": so 0 and 5 are pages */
    private static void dropOfFirstAndLastPage() {
        ForkedSheets x = withPages(6, 0, 6);
        due("first", true, x.drop(0, 0));
        due("last", true, x.drop(0, 5));
        due("places", "-1 1 2 3 4 -1", Checks.places(x, 0));
        due("free", 2, x.freeFrames());
    }

    private static void dropOfSharedPage() {
        ForkedSheets x = withPages(2, 0, 1);
        x.fork(0);
        due("another has it", false, x.drop(0, 0));
        due("it is empty", EMPTY, x.where(0, 0));
        due("no frame went free", 1, x.freeFrames());
        due("the last that has it", true, x.drop(1, 0));
        due("all frames are free", 2, x.freeFrames());
    }

    /** "when address is not 0 .. 23": so 0 and 23 are addresses */
    private static void loadOfFirstAndLastAddress() {
        ForkedSheets x = withWords(24);
        due("first", 1, x.load(0, 0));
        due("last", 24, x.load(0, 23));
        due("end of the first page", 4, x.load(0, 3));
        due("begin of the second", 5, x.load(0, 4));
    }

    private static void storeOfFirstAndLastAddress() {
        ForkedSheets x = withPages(2, 0, 0);
        x.store(0, 0, 5);
        x.store(0, 23, 6);
        due("places", "0 -1 -1 -1 -1 1", Checks.places(x, 0));
        due("words", "5 6", x.load(0, 0) + " " + x.load(0, 23));
    }

    private static void storeOfAnyWord() {
        ForkedSheets x = withPages(2, 0, 0);
        for (int word : new int[] {MIN, MAX, -1, 0, 1, 100, EMPTY}) {
            x.store(0, 0, word);
            due("word", word, x.load(0, 0));
        }
    }

    /** "(with n = 0 none is)": so no from and no to is wrong */
    private static void copyOfNoWords() {
        int[] any = {0, 23, 24, -1, MIN, MAX};
        for (int from : any) {
            for (int to : any) {
                ForkedSheets x = withPages(2, 2, 3);
                x.fork(0);
                String before = Checks.state(x);
                String what = "copy(1, " + from + ", " + to + ", 0)";
                due(what, "done", Checks.answer(() -> x.copy(1, from, to, 0)));
                due(what + " changes nothing", before, Checks.state(x));
            }
        }
    }

    private static void copyOfNoWordsWhenFull() {
        ForkedSheets x = withPages(2, 1, 3);
        x.copy(0, 4, 5, 2);
        String before = Checks.state(x).replace("copied 2", "copied 0");
        due("copy to an empty page", "done", Checks.answer(() -> x.copy(0, 0, 12, 0)));
        due("only copied has changed", before, Checks.state(x));
    }

    /** The most words that there are addresses for */
    private static void copyOfAllWords() {
        ForkedSheets x = withWords(24);
        due("copy", "done", Checks.answer(() -> x.copy(0, 0, 0, 24)));
        due("copied", 24, x.copied());
        for (int a = 0; a < 24; a++) {
            due("word", a + 1, x.load(0, a));
        }
        checks.outOfBounds("one more", () -> x.copy(0, 0, 0, 25));
        due("all but one upwards", "done", Checks.answer(() -> x.copy(0, 0, 1, 23)));
        due("the last address", 1, x.load(0, 23));
        checks.outOfBounds("one more", () -> x.copy(0, 0, 1, 24));
        checks.outOfBounds("one more the other way", () -> x.copy(0, 1, 0, 24));
    }

    private static void copyOfLastWord() {
        ForkedSheets x = withWords(24);
        x.copy(0, 23, 0, 1);
        due("from the last", 24, x.load(0, 0));
        x.copy(0, 1, 23, 1);
        due("to the last", 2, x.load(0, 23));
        due("copied", 1, x.copied());
    }

    /** "also where both overlap": "the word of the lowest address first", so it is what all get */
    private static void copyUpwardsOverlapping() {
        ForkedSheets x = withWords(8);
        x.copy(0, 0, 1, 7);
        words("by one", x, 1, 1, 1, 1, 1, 1, 1, 1);
        ForkedSheets y = withWords(8);
        y.copy(0, 0, 3, 5);
        words("by three", y, 1, 2, 3, 1, 2, 3, 1, 2);
    }

    private static void copyDownwardsOverlapping() {
        ForkedSheets x = withWords(8);
        x.copy(0, 1, 0, 7);
        words("by one", x, 2, 3, 4, 5, 6, 7, 8, 8);
        ForkedSheets y = withWords(8);
        y.copy(0, 3, 0, 5);
        words("by three", y, 4, 5, 6, 7, 8, 6, 7, 8);
    }

    /** "or are the same" */
    private static void copyOntoItself() {
        ForkedSheets x = withWords(8);
        x.copy(0, 2, 2, 4);
        words("the same", x, 1, 2, 3, 4, 5, 6, 7, 8);
        due("copied", 4, x.copied());
        due("faults", 2, x.faults());
    }

    /** "each loaded and then stored": a word 0 of an empty page, too, and storing makes a sheet */
    private static void copyOfEmptyPages() {
        ForkedSheets x = withWords(1);
        x.copy(0, 4, 12, 5);
        due("those it went to have sheets", "0 -1 -1 1 2 -1", Checks.places(x, 0));
        due("faults", 3, x.faults());
        x.copy(0, 20, 20, 1);
        due("also onto itself", "0 -1 -1 1 2 3", Checks.places(x, 0));
    }

    /** The first word makes the page its own; the words behind it are loaded from there. */
    private static void copyOfSharedPage() {
        ForkedSheets x = withWords(4);
        x.fork(0);
        x.copy(1, 0, 1, 3);
        due("the one that copied", "1 1 1 1",
            x.load(1, 0) + " " + x.load(1, 1) + " " + x.load(1, 2) + " " + x.load(1, 3));
        words("the other one", x, 1, 2, 3, 4);
        due("one sheet was made", 2, x.faults());
        x.fork(1);
        x.copy(2, 0, 0, 1);
        due("onto itself it is the own one, too", 1, x.sharers(2, 0));
    }

    /** Two frames, three pages: the page it goes to comes in, the one it comes from stays. */
    private static void copyBringsInWhereItGoes() {
        ForkedSheets x = withPages(2, 1, 3);
        for (int i = 0; i < 4; i++) {
            x.store(0, i, 10 + i);
        }
        due("before", "1 100 0 -1 -1 -1", Checks.places(x, 0));
        x.copy(0, 0, 4, 4);
        due("copied", 4, x.copied());
        due("what was evicted for the first stays out", "1 0 100 -1 -1 -1", Checks.places(x, 0));
        words("copied", x, 10, 11, 12, 13, 10, 11, 12, 13);
        due("one fault for the page it went to", 5, x.faults());
        due("page 2 has its word", 3, x.load(0, 8));
    }

    /** The hand may choose the very page that was loaded: it comes back for the next word. */
    private static void copyPushesOutWhereItComesFrom() {
        ForkedSheets x = withPages(2, 1, 3);
        for (int i = 0; i < 4; i++) {
            x.store(0, 4 + i, 10 + i);
        }
        due("before", "100 1 0 -1 -1 -1", Checks.places(x, 0));
        due("the hand is at page 1", 1, x.hand());
        x.copy(0, 4, 0, 1);
        due("page 1 went for page 0", "1 100 0 -1 -1 -1", Checks.places(x, 0));
        due("the word that was loaded before", 10, x.load(0, 0));
        due("faults, evicted", "4 2", x.faults() + " " + x.evicted());

        ForkedSheets y = withPages(2, 1, 3);
        for (int i = 0; i < 4; i++) {
            y.store(0, 4 + i, 10 + i);
        }
        y.copy(0, 4, 0, 4);
        due("page 1 came back for page 2", "1 0 100 -1 -1 -1", Checks.places(y, 0));
        words("copied", y, 10, 11, 12, 13, 10, 11, 12, 13);
        due("faults, evicted", "5 3", y.faults() + " " + y.evicted());
    }

    /** "0 when there was none" */
    private static void copiedAtFirst() {
        due("new", 0, new ForkedSheets(2, 2).copied());
        ForkedSheets x = withPages(2, 2, 3);
        x.load(0, 0);
        due("stores and loads are none", 0, x.copied());
        checks.outOfBounds("refused", () -> x.copy(0, 0, 22, 3));
        checks.noSuchElement("refused", () -> x.copy(1, 0, 0, 3));
        due("those that were refused are none", 0, x.copied());
    }

    /** "How many words the latest copy copied" */
    private static void copiedByTheLatest() {
        ForkedSheets x = withWords(24);
        int[] numbers = {5, 1, 24, 0, 3};
        for (int n : numbers) {
            x.copy(0, 0, 0, n);
            due("copied", n, x.copied());
        }
        x.store(0, 0, 1);
        x.fork(0);
        x.exit(0);
        due("other calls leave it", 3, x.copied());
    }

    /** "that did not throw one of the first two exceptions" */
    private static void copiedWhenRefused() {
        ForkedSheets x = withWords(24);
        x.copy(0, 0, 8, 7);
        checks.noSuchElement("no process", () -> x.copy(1, 0, 0, 1));
        due("copied", 7, x.copied());
        checks.outOfBounds("no address", () -> x.copy(0, 0, 24, 1));
        due("copied", 7, x.copied());
        checks.outOfBounds("fewer than none", () -> x.copy(0, 0, 0, -1));
        due("copied", 7, x.copied());
    }

    /** "(so with IllegalState those before)" */
    private static void copiedWhenStopped() {
        for (int before = 0; before <= 4; before++) {
            ForkedSheets x = withPages(2, 0, 2);
            x.copy(0, 0, 1, 7);
            int to = 8 - before;
            checks.illegalState("copy to " + to, () -> x.copy(0, 0, to, 8));
            due("those before", before, x.copied());
            due("the next page is empty", EMPTY, x.where(0, 2));
        }
    }

    /** "EMPTY when the page is empty, there is no such page, or p is not there" */
    private static void whereNoPageIs() {
        ForkedSheets x = withPages(8, 2, 6);
        x.fork(0);
        x.exit(0);
        x.drop(1, 2);
        int[][] none = {
            {1, 2}, {1, -1}, {1, 6}, {1, MIN}, {1, MAX}, {0, 0}, {0, 5}, {2, 0}, {5, 5}, {-1, 0}, {6, 0},
            {MIN, 0}, {MAX, 0}, {-1, -1}, {6, 6}, {MIN, MIN}, {MAX, MAX}};
        for (int[] n : none) {
            due("where(" + n[0] + ", " + n[1] + ")", EMPTY, x.where(n[0], n[1]));
            due("sharers(" + n[0] + ", " + n[1] + ")", 0, x.sharers(n[0], n[1]));
        }
        due("the others", "0 1 -1 3 4 5", Checks.places(x, 1));
    }

    /** "the frame's number, or 100 and the slot's": 0 and 7, 100 and 109 */
    private static void whereFirstAndLastPlacesAre() {
        ForkedSheets x = withPages(8, 10, 6);
        for (int p = 1; p < 3; p++) {
            x.spawn();
            for (int page = 0; page < 6; page++) {
                x.store(p, 4 * page, 1);
            }
        }
        due("the oldest ten in the slots", "100 101 102 103 104 105", Checks.places(x, 0));
        due("then the frames again", "106 107 108 109 2 3", Checks.places(x, 1));
        due("the youngest", "4 5 6 7 0 1", Checks.places(x, 2));
    }

    /** "How many pages (this one, too) have the sheet of this page" */
    private static void sharersFromNoneToSix() {
        ForkedSheets x = withPages(2, 0, 0);
        due("empty", 0, x.sharers(0, 0));
        x.store(0, 0, 1);
        for (int p = 1; p < 6; p++) {
            due("so many", p, x.sharers(0, 0));
            x.fork(0);
        }
        for (int p = 0; p < 6; p++) {
            due("all", 6, x.sharers(p, 0));
        }
        for (int p = 5; p > 0; p--) {
            x.exit(p);
            due("so many again", p, x.sharers(0, 0));
        }
    }

    /** Numbers 0 .. 5; all others are not there */
    private static void isThereOfFirstAndLast() {
        ForkedSheets x = new ForkedSheets(2, 2);
        for (int p = 0; p < 6; p++) {
            x.spawn();
        }
        due("first and last", "true true", x.isThere(0) + " " + x.isThere(5));
        for (int p : new int[] {-1, 6, MIN, MAX}) {
            due("isThere(" + p + ")", false, x.isThere(p));
        }
        x.exit(0);
        x.exit(5);
        due("exited", "false false", x.isThere(0) + " " + x.isThere(5));
    }

    /** "false when there is no such frame" */
    private static void markedOfNoFrame() {
        for (int frames = 2; frames <= 8; frames++) {
            ForkedSheets x = withPages(frames, 0, Math.min(frames, 6));
            for (int frame : new int[] {-1, frames, frames + 1, 8, 100, MIN, MAX}) {
                due("marked(" + frame + ") of " + frames, false, x.marked(frame));
            }
        }
    }

    private static void markedOfLastFrame() {
        for (int frames = 2; frames <= 6; frames++) {
            ForkedSheets x = withPages(frames, 0, frames);
            due("last of " + frames, true, x.marked(frames - 1));
            x.drop(0, frames - 1);
            due("free one", false, x.marked(frames - 1));
        }
    }

    private static void freeFramesFromAllToNone() {
        ForkedSheets x = withPages(6, 1, 0);
        for (int page = 0; page < 6; page++) {
            due("so many", 6 - page, x.freeFrames());
            x.store(0, 4 * page, 1);
        }
        due("none", 0, x.freeFrames());
        for (int page = 0; page < 6; page++) {
            x.drop(0, page);
            due("so many again", page + 1, x.freeFrames());
        }
    }

    private static void freeSlotsFromAllToNone() {
        ForkedSheets x = withPages(2, 4, 2);
        for (int page = 2; page < 6; page++) {
            due("so many", 6 - page, x.freeSlots());
            x.store(0, 4 * page, 1);
        }
        due("none", 0, x.freeSlots());
        for (int page = 0; page < 4; page++) {
            x.drop(0, page);
            due("so many again", page + 1, x.freeSlots());
        }
        due("there are none at all", 0, withPages(2, 0, 2).freeSlots());
    }

    /** "How many faults there were.": what is refused, forked, dropped or in a frame is none */
    private static void faultsAreOnlyWhatIsSaid() {
        ForkedSheets x = withPages(2, 0, 2);
        due("made", 2, x.faults());
        checks.illegalState("store", () -> x.store(0, 8, 1));
        checks.illegalState("copy", () -> x.copy(0, 0, 8, 1));
        x.load(0, 0);
        x.load(0, 23);
        x.store(0, 3, 4);
        x.fork(0);
        x.drop(1, 0);
        x.exit(1);
        due("no more", 2, x.faults());
        x.drop(0, 0);
        x.store(0, 0, 1);
        due("made again", 3, x.faults());
    }

    /** "How many sheets were evicted.": a sheet that goes and comes and goes counts twice */
    private static void evictedAreOnlyWhatIsSaid() {
        ForkedSheets x = withPages(2, 1, 3);
        due("page 0 went", 1, x.evicted());
        checks.illegalState("store", () -> x.store(0, 12, 1));
        due("none by what is refused", 1, x.evicted());
        x.load(0, 0);
        due("page 1 went for page 0", 2, x.evicted());
        x.load(0, 4);
        x.load(0, 8);
        due("each time another one", 4, x.evicted());
        due("page 0 went again", 100, x.where(0, 0));
        x.exit(0);
        due("none by exit", 4, x.evicted());
    }

    /** where, sharers, isThere, marked and those without arguments only tell. */
    private static void questionsChangeNothing() {
        ForkedSheets x = withPages(3, 3, 5);
        x.fork(0);
        x.copy(1, 0, 5, 2);
        String first = Checks.state(x);
        due("asked again", first, Checks.state(x));
        due("and again", first, Checks.state(x));
    }

    /** "An object is used for at most 512 calls": so all of them are answered as the first ones are. */
    private static void lastOfAllCalls() {
        ForkedSheets x = new ForkedSheets(2, 1);
        x.spawn();
        x.store(0, 0, 1);
        x.store(0, 4, 2);
        x.store(0, 8, 3);
        // With three pages over two frames asked for in turn, each of these loads is a fault.
        for (int call = 5; call <= 510; call++) {
            int page = (call - 5) % 3;
            due("call " + call, page + 1, x.load(0, 4 * page));
        }
        due("call 511", 509, x.faults());
        due("call 512", 507, x.evicted());
    }
}
