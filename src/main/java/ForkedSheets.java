import java.util.Arrays;
import java.util.NoSuchElementException;

/** Address spaces of processes whose pages share sheets until one of them writes. */
public final class ForkedSheets {
    public static final int EMPTY = -1;

    private static final int PROCESSES = 6;
    private static final int PAGES = 6;
    private static final int WORDS = 4;
    private static final int ADDRESSES = PAGES * WORDS;
    private static final int FEWEST_FRAMES = 2;
    private static final int MOST_FRAMES = 8;
    private static final int MOST_SLOTS = 10;
    private static final int FIRST_SLOT = 100;
    private static final int NONE = -1;

    private final boolean[] there = new boolean[PROCESSES];
    private final int[][] sheets = new int[PROCESSES][PAGES];
    private final Memory memory;
    private int wordsCopied;

    public ForkedSheets(int frames, int slots) {
        memory = new Memory(
            Math.min(Math.max(frames, FEWEST_FRAMES), MOST_FRAMES),
            Math.min(Math.max(slots, 0), MOST_SLOTS));
        for (int p = 0; p < PROCESSES; p++) {
            Arrays.fill(sheets[p], EMPTY);
        }
    }

    public int spawn() throws IllegalStateException {
        int p = lowestNotThere();
        if (p == NONE) {
            throw new IllegalStateException("all processes are there");
        }
        there[p] = true;
        return p;
    }

    public int fork(int p) throws NoSuchElementException, IllegalStateException {
        requireProcess(p);
        int child = lowestNotThere();
        if (child == NONE) {
            throw new IllegalStateException("all processes are there");
        }
        there[child] = true;
        for (int page = 0; page < PAGES; page++) {
            int sheet = sheets[p][page];
            sheets[child][page] = sheet;
            if (sheet != EMPTY) {
                memory.join(sheet);
            }
        }
        return child;
    }

    public int exit(int p) throws NoSuchElementException {
        requireProcess(p);
        int gone = 0;
        for (int page = 0; page < PAGES; page++) {
            if (emptyPage(p, page)) {
                gone++;
            }
        }
        there[p] = false;
        return gone;
    }

    public boolean drop(int p, int page) throws NoSuchElementException, IndexOutOfBoundsException {
        requireProcess(p);
        if (page < 0 || page >= PAGES) {
            throw new IndexOutOfBoundsException("no such page");
        }
        return emptyPage(p, page);
    }

    public int load(int p, int address) throws NoSuchElementException, IndexOutOfBoundsException {
        requireProcess(p);
        requireAddress(address);
        return loadWord(p, address);
    }

    public void store(int p, int address, int word)
            throws NoSuchElementException, IndexOutOfBoundsException, IllegalStateException {
        requireProcess(p);
        requireAddress(address);
        storeWord(p, address, word);
    }

    public void copy(int p, int from, int to, int n)
            throws NoSuchElementException, IndexOutOfBoundsException, IllegalStateException {
        requireProcess(p);
        requireRange(from, n);
        requireRange(to, n);
        wordsCopied = 0;
        for (int i = 0; i < n; i++) {
            storeWord(p, to + i, loadWord(p, from + i));
            wordsCopied++;
        }
    }

    public int copied() {
        return wordsCopied;
    }

    public int where(int p, int page) {
        int sheet = sheetOf(p, page);
        return sheet == EMPTY ? EMPTY : memory.placeOf(sheet);
    }

    public int sharers(int p, int page) {
        int sheet = sheetOf(p, page);
        return sheet == EMPTY ? 0 : memory.pagesOf(sheet);
    }

    public boolean isThere(int p) {
        return p >= 0 && p < PROCESSES && there[p];
    }

    public boolean marked(int frame) {
        return memory.hasMark(frame);
    }

    public int hand() {
        return memory.handAt;
    }

    public int freeFrames() {
        return countFree(memory.inFrame);
    }

    public int freeSlots() {
        return countFree(memory.inSlot);
    }

    public int faults() {
        return memory.faultCount;
    }

    public int evicted() {
        return memory.evictedCount;
    }

    private void requireProcess(int p) {
        if (!isThere(p)) {
            throw new NoSuchElementException("no such process");
        }
    }

    private static void requireAddress(int address) {
        if (address < 0 || address >= ADDRESSES) {
            throw new IndexOutOfBoundsException("no such address");
        }
    }

    private static void requireRange(int first, int n) {
        if (n < 0) {
            throw new IndexOutOfBoundsException("fewer words than none");
        }
        // Not first + n, which may wrap around; and with no words, first is no address of any.
        if (n > 0 && (first < 0 || first >= ADDRESSES || n > ADDRESSES - first)) {
            throw new IndexOutOfBoundsException("no such address");
        }
    }

    private int lowestNotThere() {
        for (int p = 0; p < PROCESSES; p++) {
            if (!there[p]) {
                return p;
            }
        }
        return NONE;
    }

    private int sheetOf(int p, int page) {
        return isThere(p) && page >= 0 && page < PAGES ? sheets[p][page] : EMPTY;
    }

    /** Whether the page's sheet is none by that. */
    private boolean emptyPage(int p, int page) {
        int sheet = sheets[p][page];
        sheets[p][page] = EMPTY;
        return sheet != EMPTY && memory.leave(sheet);
    }

    private int loadWord(int p, int address) {
        int sheet = sheets[p][address / WORDS];
        return sheet == EMPTY ? 0 : memory.read(sheet, address % WORDS);
    }

    private void storeWord(int p, int address, int word) {
        int page = address / WORDS;
        int sheet = sheets[p][page];
        if (sheet == EMPTY || memory.pagesOf(sheet) > 1) {
            sheet = giveOwnSheet(p, page);
        }
        memory.write(sheet, address % WORDS, word);
    }

    private int giveOwnSheet(int p, int page) {
        int made = memory.make();
        if (made == NONE) {
            throw new IllegalStateException("no frame and no slot is free");
        }
        int old = sheets[p][page];
        if (old != EMPTY) {
            memory.copyWords(old, made);
            memory.leave(old);
        }
        sheets[p][page] = made;
        return made;
    }

    private static int lowestFree(int[] row) {
        for (int i = 0; i < row.length; i++) {
            if (row[i] == NONE) {
                return i;
            }
        }
        return NONE;
    }

    private static int countFree(int[] row) {
        int free = 0;
        for (int i = 0; i < row.length; i++) {
            if (row[i] == NONE) {
                free++;
            }
        }
        return free;
    }

    private static int[] freeRow(int length) {
        int[] row = new int[length];
        Arrays.fill(row, NONE);
        return row;
    }

    /**
     * The sheets by their numbers, and the frames and slots they lie in. A sheet keeps its number
     * and its words wherever it lies, so that moving it touches none of the pages that have it.
     */
    private static final class Memory {
        private final int[] inFrame;
        private final int[] inSlot;
        private final boolean[] marks;
        private final int[] places;
        private final int[] pageCounts;
        private final int[][] words;
        private int handAt;
        private int faultCount;
        private int evictedCount;

        Memory(int frames, int slots) {
            inFrame = freeRow(frames);
            inSlot = freeRow(slots);
            marks = new boolean[frames];
            // As many numbers as places: where a place is free for a sheet, so is a number.
            places = freeRow(frames + slots);
            pageCounts = new int[frames + slots];
            words = new int[frames + slots][WORDS];
        }

        int placeOf(int sheet) {
            return places[sheet];
        }

        int pagesOf(int sheet) {
            return pageCounts[sheet];
        }

        boolean hasMark(int frame) {
            return frame >= 0 && frame < marks.length && marks[frame];
        }

        int read(int sheet, int i) {
            touch(sheet);
            return words[sheet][i];
        }

        void write(int sheet, int i, int word) {
            touch(sheet);
            words[sheet][i] = word;
        }

        void copyWords(int from, int to) {
            System.arraycopy(words[from], 0, words[to], 0, WORDS);
        }

        /** A new sheet that one page has; NONE, and nothing has changed, when it can't be made. */
        int make() {
            int sheet = lowestFree(places);
            int frame = sheet == NONE ? NONE : getFrame();
            if (frame == NONE) {
                return NONE;
            }
            Arrays.fill(words[sheet], 0);
            pageCounts[sheet] = 1;
            layIntoFrame(sheet, frame);
            return sheet;
        }

        /** One more page has the sheet. */
        void join(int sheet) {
            pageCounts[sheet]++;
        }

        /** One page less has the sheet: whether it is none by that. */
        boolean leave(int sheet) {
            pageCounts[sheet]--;
            if (pageCounts[sheet] > 0) {
                return false;
            }
            freePlace(places[sheet]);
            places[sheet] = NONE;
            return true;
        }

        private void touch(int sheet) {
            if (places[sheet] >= FIRST_SLOT) {
                bringIn(sheet);
            }
            marks[places[sheet]] = true;
        }

        private void bringIn(int sheet) {
            // Its slot goes free first: so a frame can always be got.
            freePlace(places[sheet]);
            layIntoFrame(sheet, getFrame());
        }

        /** Both ways into a frame, being brought in and being made, are faults. */
        private void layIntoFrame(int sheet, int frame) {
            inFrame[frame] = sheet;
            places[sheet] = frame;
            faultCount++;
        }

        private void freePlace(int place) {
            if (place >= FIRST_SLOT) {
                inSlot[place - FIRST_SLOT] = NONE;
            } else {
                inFrame[place] = NONE;
                marks[place] = false;
            }
        }

        /** NONE, and nothing has changed, when neither a frame nor a slot is free. */
        private int getFrame() {
            int frame = lowestFree(inFrame);
            if (frame != NONE) {
                return frame;
            }
            int slot = lowestFree(inSlot);
            return slot == NONE ? NONE : evictInto(slot);
        }

        private int evictInto(int slot) {
            // One round at most: behind it no frame is marked any more.
            for (int i = 0; i < marks.length && marks[handAt]; i++) {
                marks[handAt] = false;
                moveHand();
            }
            int frame = handAt;
            int sheet = inFrame[frame];
            inSlot[slot] = sheet;
            places[sheet] = FIRST_SLOT + slot;
            inFrame[frame] = NONE;
            evictedCount++;
            moveHand();
            return frame;
        }

        private void moveHand() {
            handAt = handAt + 1 < marks.length ? handAt + 1 : 0;
        }
    }
}
