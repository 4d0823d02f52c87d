import java.util.TreeSet;

/** The sentences under "Terms" that name a boundary case, each with a test of its own. */
public final class TermsTest {
    private static final Checks checks = new Checks();

    public static void main(String[] args) {
        wordsHaveAddresses();
        emptyPageIsAllZero();
        sheetThatNoPageHasIsNone();
        oneSheetAtMostLiesInEach();
        freeFrameIsNotMarked();
        handIsZeroAtFirst();
        lowestFreeFrameIsGot();
        handGoesAllRound();
        handGoesAllRoundFromTheLastFrame();
        handStopsAtOnce();
        handMovesOnBehindTheLastFrame();
        handGoesRoundPastTheLastFrame();
        handGoesRoundManyFrames();
        lowestFreeSlotIsTaken();
        lastFreeSlotIsTaken();
        broughtInSheetLeavesItsSlotFirst();
        broughtInSheetLeavesALowSlot();
        broughtInSheetLeavesAHighSlot();
        broughtInSheetTakesTheLowestFreeFrame();
        sheetIsMadeInTheLastFreeFrame();
        sheetIsMadeForTheLastFreeSlot();
        loadingAnEmptyPageDoesNothing();
        loadingInAFrameMarksIt();
        storingZeroMakesASheet();
        storingLeavesSharedSheetInItsFrame();
        storingLeavesSharedSheetInItsSlot();
        storingEvictsTheSharedSheet();
        storingTheSameWordMakesASheet();
        storingByTheLastThatHasItMakesNone();
        storingBringsInWhatOnePageHas();
        faultOfASharedSheetIsOne();
        checks.end();
    }

    private static void due(String what, Object want, Object got) {
        checks.due(what, want, got);
    }

    private static void places(String what, String want, ForkedSheets x, int p) {
        due(what + ": places of process " + p, want, Checks.places(x, p));
    }

    private static void marksAndHand(String what, String want, ForkedSheets x) {
        due(what + ": marks and hand", want, Checks.marks(x, want.indexOf(' ')) + " " + x.hand());
    }

    /** Process 0 is there, and its first pages have sheets, made one after the other. */
    private static ForkedSheets withPages(int frames, int slots, int pages) {
        ForkedSheets x = new ForkedSheets(frames, slots);
        x.spawn();
        for (int page = 0; page < pages; page++) {
            x.store(0, 4 * page, page + 1);
        }
        return x;
    }

    /** Processes 0, 1, 2 .. get sheets, page for page, until there are so many. */
    private static ForkedSheets withSheets(int frames, int slots, int sheets) {
        ForkedSheets x = new ForkedSheets(frames, slots);
        for (int i = 0; i < sheets; i++) {
            addSheet(x, i);
        }
        return x;
    }

    private static void addSheet(ForkedSheets x, int i) {
        if (i % 6 == 0) {
            x.spawn();
        }
        x.store(i / 6, i % 6 * 4, i + 1);
    }

    /** "word i of page p has the ADDRESS 4 * p + i, 0 .. 23" */
    private static void wordsHaveAddresses() {
        for (int page = 0; page < 6; page++) {
            for (int i = 0; i < 4; i++) {
                ForkedSheets x = new ForkedSheets(6, 0);
                x.spawn();
                x.store(0, 4 * page + i, 9);
                for (int q = 0; q < 6; q++) {
                    due("page " + q + " by address " + (4 * page + i), q == page ? 0 : -1, x.where(0, q));
                }
                for (int a = 0; a < 24; a++) {
                    due("word " + a + " by " + (4 * page + i), a == 4 * page + i ? 9 : 0, x.load(0, a));
                }
            }
        }
    }

    /** "A page is EMPTY (all its words are 0)" */
    private static void emptyPageIsAllZero() {
        ForkedSheets x = withPages(2, 0, 1);
        x.copy(0, 0, 1, 3);
        x.drop(0, 0);
        for (int a = 0; a < 24; a++) {
            due("word " + a + " of empty pages", 0, x.load(0, a));
        }
        x.store(0, 3, 7);
        due("what it had is not in its new sheet", "0 0 0 7",
            x.load(0, 0) + " " + x.load(0, 1) + " " + x.load(0, 2) + " " + x.load(0, 3));
    }

    /** "a sheet that no page has any more is none", whoever had it first, in a frame or a slot. */
    private static void sheetThatNoPageHasIsNone() {
        ForkedSheets x = withPages(2, 1, 3);
        x.fork(0);
        x.fork(1);
        places("before", "100 1 0 -1 -1 -1", x, 2);
        due("one has it no more", false, x.drop(0, 0));
        due("another has it no more", false, x.drop(2, 0));
        due("the slot is taken", 0, x.freeSlots());
        due("nobody has it any more", true, x.drop(1, 0));
        due("the slot is free", 1, x.freeSlots());
        due("two are left, which two processes have", 0, x.exit(0));
        due("which one process has", 0, x.exit(2));
        due("no frame is free", 0, x.freeFrames());
        due("nobody has them any more", 2, x.exit(1));
        due("all frames are free", 2, x.freeFrames());
    }

    /** "one sheet at most lies in each": all frames and slots full, the largest and the smallest. */
    private static void oneSheetAtMostLiesInEach() {
        int[][] sizes = {{8, 10}, {2, 0}, {2, 10}, {8, 0}, {2, 1}, {3, 3}};
        for (int[] s : sizes) {
            int sheets = s[0] + s[1];
            ForkedSheets x = withSheets(s[0], s[1], sheets);
            TreeSet<Integer> want = new TreeSet<>();
            TreeSet<Integer> got = new TreeSet<>();
            for (int i = 0; i < sheets; i++) {
                want.add(i < s[0] ? i : 100 + i - s[0]);
                got.add(x.where(i / 6, i % 6));
            }
            due("places of " + sheets + " sheets", want, got);
            due("free", "0 0", x.freeFrames() + " " + x.freeSlots());
            for (int i = 0; i < sheets; i++) {
                due("its word", i + 1, x.load(i / 6, i % 6 * 4));
            }
        }
    }

    /** "one that becomes FREE is not" marked */
    private static void freeFrameIsNotMarked() {
        ForkedSheets x = withPages(3, 0, 3);
        marksAndHand("before", "mmm 0", x);
        x.drop(0, 1);
        marksAndHand("dropped", "m-m 0", x);
        x.exit(0);
        marksAndHand("exited", "--- 0", x);

        // Where a sheet comes to lie in such a frame, it is marked as said: here by being stored.
        x.spawn();
        x.store(0, 0, 1);
        marksAndHand("stored", "m-- 0", x);
    }

    /** "There is a HAND, a frame's number, 0 at first." */
    private static void handIsZeroAtFirst() {
        for (int frames = 2; frames <= 8; frames++) {
            due("hand of a new object", 0, new ForkedSheets(frames, 1).hand());
            due("hand with all frames full", 0, withSheets(frames, 1, frames).hand());
        }
    }

    /** "when there are free ones, it is the lowest (the hand stays)" */
    private static void lowestFreeFrameIsGot() {
        ForkedSheets x = withPages(4, 2, 5);
        x.load(0, 4);
        x.load(0, 8);
        marksAndHand("before", "mmm- 1", x);
        x.drop(0, 3);
        x.drop(0, 4);
        x.drop(0, 1);
        places("frame 2 is the only one that is not free", "100 -1 2 -1 -1 -1", x, 0);
        x.store(0, 12, 1);
        x.store(0, 16, 1);
        x.store(0, 20, 1);
        places("one after the other", "100 -1 2 0 1 3", x, 0);
        marksAndHand("no mark went", "mmmm 1", x);
        due("none was evicted for them", 1, x.evicted());
    }

    /** "while the frame at the hand is marked, its mark goes and the hand moves on": all are marked. */
    private static void handGoesAllRound() {
        for (int frames = 2; frames <= 8; frames++) {
            ForkedSheets x = withSheets(frames, 1, frames);
            marksAndHand("before", "mmmmmmmm".substring(0, frames) + " 0", x);
            addSheet(x, frames);
            due("the frame where the hand began", 100, x.where(0, 0));
            due("it was got", 0, x.where(frames / 6, frames % 6));
            marksAndHand("all other marks are gone", "m-------".substring(0, frames) + " 1", x);
        }
    }

    private static void handGoesAllRoundFromTheLastFrame() {
        ForkedSheets x = withPages(3, 3, 5);
        x.load(0, 8);
        marksAndHand("before", "mmm 2", x);
        x.store(0, 20, 6);
        places("the last frame was got", "100 101 102 0 1 2", x, 0);
        marksAndHand("behind the last one to frame 0", "--m 0", x);
    }

    /** The frame at the hand is not marked: no mark goes, though others are marked. */
    private static void handStopsAtOnce() {
        ForkedSheets x = withPages(3, 3, 4);
        x.load(0, 8);
        marksAndHand("before", "m-m 1", x);
        x.store(0, 16, 5);
        places("frame 1 was got", "100 101 2 0 1 -1", x, 0);
        marksAndHand("one on", "mmm 2", x);
    }

    /** "the hand moves on to the next frame (behind the last one to frame 0)": when it has chosen. */
    private static void handMovesOnBehindTheLastFrame() {
        ForkedSheets x = withPages(3, 3, 5);
        marksAndHand("before", "mm- 2", x);
        x.store(0, 20, 6);
        places("the last frame was got", "100 101 102 0 1 2", x, 0);
        marksAndHand("behind the last one to frame 0", "mmm 0", x);

        ForkedSheets y = withPages(2, 2, 3);
        marksAndHand("before, the fewest frames", "m- 1", y);
        y.store(0, 12, 4);
        marksAndHand("the fewest frames", "mm 0", y);
    }

    /** The same while it looks for one that is not marked. */
    private static void handGoesRoundPastTheLastFrame() {
        ForkedSheets x = withPages(3, 3, 4);
        x.load(0, 4);
        x.store(0, 16, 5);
        marksAndHand("frame 1 was passed, frame 2 got", "m-m 0", x);
        x.store(0, 20, 6);
        marksAndHand("frame 0 was passed, frame 1 got", "-mm 2", x);
        places("before", "100 102 101 0 2 1", x, 0);
        due("page 0 comes back", 1, x.load(0, 0));
        places("frame 2 was passed, frame 0 got", "0 102 101 100 2 1", x, 0);
        marksAndHand("one on", "mm- 1", x);
    }

    private static void handGoesRoundManyFrames() {
        ForkedSheets x = withSheets(8, 10, 8);
        for (int i = 8; i < 18; i++) {
            addSheet(x, i);
            due("hand at sheet " + i, (i - 7) % 8, x.hand());
            due("frame of sheet " + i, (i - 8) % 8, x.where(i / 6, i % 6));
        }
        due("evicted", 10, x.evicted());
    }

    /** "EVICTED into the lowest free slot" */
    private static void lowestFreeSlotIsTaken() {
        ForkedSheets x = withPages(2, 4, 6);
        places("before", "100 101 102 103 0 1", x, 0);
        x.drop(0, 3);
        x.drop(0, 1);
        x.drop(0, 2);
        x.store(0, 4, 2);
        places("slots 1 to 3 were free", "100 0 -1 -1 101 1", x, 0);
        x.store(0, 8, 3);
        places("slots 2 and 3 were free", "100 0 1 -1 101 102", x, 0);
    }

    private static void lastFreeSlotIsTaken() {
        ForkedSheets x = withSheets(8, 10, 17);
        due("one slot is free", 1, x.freeSlots());
        due("sheet 9 is the next that goes", 1, x.where(1, 3));
        addSheet(x, 17);
        due("it lies in the last slot", 109, x.where(1, 3));
        due("no slot is free", 0, x.freeSlots());
    }

    /** "that slot is free from then on, a frame is got (so the sheet that is evicted may go into that slot)" */
    private static void broughtInSheetLeavesItsSlotFirst() {
        ForkedSheets x = withPages(2, 1, 3);
        due("nothing is free", "0 0", x.freeFrames() + " " + x.freeSlots());
        places("before", "100 1 0 -1 -1 -1", x, 0);
        due("loaded", 1, x.load(0, 0));
        places("both changed places", "1 100 0 -1 -1 -1", x, 0);
        x.store(0, 5, 7);
        places("stored", "1 0 100 -1 -1 -1", x, 0);
        due("nothing is free", "0 0", x.freeFrames() + " " + x.freeSlots());
    }

    /** Slot 0 and slot 2 are free by then: the sheet that is evicted goes into slot 0. */
    private static void broughtInSheetLeavesALowSlot() {
        ForkedSheets x = withPages(2, 3, 4);
        places("before", "100 101 0 1 -1 -1", x, 0);
        x.load(0, 0);
        places("into the slot that went free", "0 101 100 1 -1 -1", x, 0);
        due("slot 2 is free still", 1, x.freeSlots());
    }

    /** Slot 0 is free, and slot 1 by then: the sheet that is evicted goes into slot 0. */
    private static void broughtInSheetLeavesAHighSlot() {
        ForkedSheets x = withPages(2, 2, 4);
        x.drop(0, 0);
        places("before", "-1 101 0 1 -1 -1", x, 0);
        x.load(0, 4);
        places("into the lowest", "-1 0 100 1 -1 -1", x, 0);
        due("slot 1 is free", 1, x.freeSlots());
    }

    /** "a frame is got": of free ones the lowest; none is evicted, and the hand stays. */
    private static void broughtInSheetTakesTheLowestFreeFrame() {
        ForkedSheets x = withPages(3, 1, 4);
        x.drop(0, 1);
        x.drop(0, 2);
        places("before", "100 -1 -1 0 -1 -1", x, 0);
        marksAndHand("before", "m-- 1", x);
        due("loaded", 1, x.load(0, 0));
        places("frames 1 and 2 were free", "1 -1 -1 0 -1 -1", x, 0);
        marksAndHand("marked", "mm- 1", x);
        due("the slot is free", 1, x.freeSlots());
        due("faults, evicted", "5 1", x.faults() + " " + x.evicted());
    }

    /** "when no frame and no slot is free it can't be made": so with one frame and no slot it can. */
    private static void sheetIsMadeInTheLastFreeFrame() {
        ForkedSheets x = withPages(2, 0, 1);
        x.store(0, 4, 2);
        places("no slot was needed", "0 1 -1 -1 -1 -1", x, 0);
        checks.illegalState("one more", () -> x.store(0, 8, 3));
        x.drop(0, 0);
        x.store(0, 8, 3);
        places("a frame went free", "-1 1 0 -1 -1 -1", x, 0);

        ForkedSheets y = withPages(2, 1, 3);
        y.drop(0, 1);
        y.store(0, 12, 4);
        places("all slots are taken, one frame is free", "100 -1 0 1 -1 -1", y, 0);
    }

    /** And with no frame and one slot it can. */
    private static void sheetIsMadeForTheLastFreeSlot() {
        ForkedSheets x = withPages(2, 1, 2);
        x.store(0, 8, 3);
        places("one was evicted for it", "100 1 0 -1 -1 -1", x, 0);
        checks.illegalState("one more", () -> x.store(0, 12, 4));
        x.drop(0, 0);
        x.store(0, 12, 4);
        places("the slot went free", "-1 100 0 1 -1 -1", x, 0);
    }

    /** "LOADING a word of an empty page is 0, and nothing else happens." */
    private static void loadingAnEmptyPageDoesNothing() {
        ForkedSheets x = withPages(2, 1, 3);
        x.spawn();
        String before = Checks.state(x);
        for (int a = 0; a < 24; a++) {
            due("empty process, address " + a, 0, x.load(1, a));
        }
        for (int a = 12; a < 24; a++) {
            due("empty page, address " + a, 0, x.load(0, a));
        }
        due("nothing else", before, Checks.state(x));
    }

    /** "Otherwise the page is brought in, if its sheet lies in a slot, and the sheet's frame is marked." */
    private static void loadingInAFrameMarksIt() {
        ForkedSheets x = withPages(3, 1, 4);
        marksAndHand("before", "m-- 1", x);
        due("faults before", 4, x.faults());
        due("a word 0 of a sheet", 0, x.load(0, 11));
        marksAndHand("marked", "m-m 1", x);
        due("no fault", 4, x.faults());
        x.load(0, 8);
        marksAndHand("marked it stays", "m-m 1", x);
    }

    /** "STORING a word (also 0): when the page is empty, a sheet is made for it." */
    private static void storingZeroMakesASheet() {
        ForkedSheets x = new ForkedSheets(2, 0);
        x.spawn();
        x.store(0, 0, 0);
        places("made", "0 -1 -1 -1 -1 -1", x, 0);
        due("a fault", 1, x.faults());
        marksAndHand("marked", "m- 0", x);
        due("dropping it, a sheet is none", true, x.drop(0, 0));
    }

    /** "the other one (which stays where it is, in a frame or a slot": in a frame, its mark as it was. */
    private static void storingLeavesSharedSheetInItsFrame() {
        ForkedSheets x = withPages(3, 1, 4);
        x.drop(0, 3);
        x.fork(0);
        places("before", "100 1 2 -1 -1 -1", x, 1);
        marksAndHand("before", "--- 1", x);
        x.store(1, 5, 9);
        places("the one that wrote", "100 0 2 -1 -1 -1", x, 1);
        places("the other one", "100 1 2 -1 -1 -1", x, 0);
        marksAndHand("only the new one is marked", "m-- 1", x);
        due("words", "2 9 2 0", x.load(1, 4) + " " + x.load(1, 5) + " " + x.load(0, 4) + " " + x.load(0, 5));
    }

    /** In a slot: that slot does not go free, so what is evicted needs another one. */
    private static void storingLeavesSharedSheetInItsSlot() {
        ForkedSheets x = withPages(2, 2, 3);
        x.fork(0);
        places("before", "100 1 0 -1 -1 -1", x, 0);
        x.store(0, 1, 9);
        places("the one that wrote", "1 101 0 -1 -1 -1", x, 0);
        places("the other one", "100 101 0 -1 -1 -1", x, 1);
        due("one fault", 4, x.faults());
        due("words of the new one", "1 9", x.load(0, 0) + " " + x.load(0, 1));
        x.exit(0);
        due("words of the old one", "1 0", x.load(1, 0) + " " + x.load(1, 1));
    }

    /** "or goes into a slot if it is evicted for that" */
    private static void storingEvictsTheSharedSheet() {
        ForkedSheets x = withPages(2, 2, 3);
        x.store(0, 7, 8);
        x.load(0, 8);
        x.fork(0);
        places("before", "100 1 0 -1 -1 -1", x, 0);
        marksAndHand("before", "mm 1", x);
        x.store(1, 5, 9);
        places("the one that wrote", "100 1 0 -1 -1 -1", x, 1);
        places("the other one", "100 101 0 -1 -1 -1", x, 0);
        due("words of the new one", "2 9 8", x.load(1, 4) + " " + x.load(1, 5) + " " + x.load(1, 7));
        x.exit(1);
        due("words of the old one", "2 0 8", x.load(0, 4) + " " + x.load(0, 5) + " " + x.load(0, 7));
    }

    /** A word that is there already is stored, too. */
    private static void storingTheSameWordMakesASheet() {
        ForkedSheets x = withPages(2, 0, 1);
        x.fork(0);
        x.store(1, 0, 1);
        due("places", "0 1", x.where(0, 0) + " " + x.where(1, 0));
        due("faults", 2, x.faults());
    }

    /** "When its sheet is that of other pages too": not any more, when they have written or are gone. */
    private static void storingByTheLastThatHasItMakesNone() {
        ForkedSheets x = withPages(2, 0, 1);
        x.fork(0);
        x.store(0, 0, 5);
        due("the first has a sheet of its own", "1 0", x.where(0, 0) + " " + x.where(1, 0));
        x.store(1, 0, 6);
        due("the last keeps the sheet", "1 0", x.where(0, 0) + " " + x.where(1, 0));
        due("no fault", 2, x.faults());
        due("words", "5 6", x.load(0, 0) + " " + x.load(1, 0));
        x.exit(0);
        x.fork(1);
        x.drop(0, 0);
        x.store(1, 0, 7);
        due("behind a drop", 0, x.where(1, 0));
        x.exit(x.fork(1));
        x.store(1, 0, 8);
        due("behind an exit", 0, x.where(1, 0));
        due("no fault by all that", 2, x.faults());
    }

    /** "Otherwise the page is brought in, if its sheet lies in a slot. Then the frame is marked" */
    private static void storingBringsInWhatOnePageHas() {
        ForkedSheets x = withPages(2, 1, 3);
        places("before", "100 1 0 -1 -1 -1", x, 0);
        x.store(0, 2, 9);
        places("brought in though no slot was free", "1 100 0 -1 -1 -1", x, 0);
        marksAndHand("marked", "mm 0", x);
        due("words", "1 0 9 0",
            x.load(0, 0) + " " + x.load(0, 1) + " " + x.load(0, 2) + " " + x.load(0, 3));
        due("a fault", 4, x.faults());
    }

    /** "Each page that is brought in and each sheet that is made is a FAULT.": for all that share it. */
    private static void faultOfASharedSheetIsOne() {
        ForkedSheets x = withPages(2, 1, 3);
        for (int p = 1; p < 6; p++) {
            x.fork(0);
        }
        due("forks are none", 3, x.faults());
        for (int p = 0; p < 6; p++) {
            due("word of process " + p, 1, x.load(p, 0));
            due("faults", 4, x.faults());
            due("place", 1, x.where(p, 0));
        }
    }
}
