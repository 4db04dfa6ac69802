/**
 * Pages on a disk that writes a page in pieces, and whose power may go between any two of them.
 * Each page is written twice, first beside, then at home, behind a log that is always ahead.
 */
public final class TwinWrites {
    public static final int NONE = -1;
    public static final int FULL = -2, LOST = -3;

    private static final int PAGES = 12;
    private static final int SECTORS = 4;
    private static final int SECTOR_WORDS = 4;
    private static final int WORDS = SECTORS * SECTOR_WORDS;
    private static final int RECORDS = 12;
    private static final int FRAMES = 4;
    /** As many as frames, so that a cleaning of all frames finds a slot for each. */
    private static final int SLOTS = FRAMES;
    private static final int FARTHEST_POWER = 10000;

    private static final int FIRST_STAMP_VALUE = WORDS;
    private static final int FIRST_NUMBER_VALUE = FIRST_STAMP_VALUE + SECTORS;
    private static final int HOME_VALUES = FIRST_NUMBER_VALUE;
    private static final int SLOT_VALUES = FIRST_NUMBER_VALUE + SECTORS;
    private static final int RECORD_VALUES = 4;
    private static final int FRAME_WORDS_AT = 3;
    private static final int FRAME_VALUES = FRAME_WORDS_AT + WORDS;

    // The disk.
    private final Place[] homes = new Place[PAGES];
    private final Place[] slots = new Place[SLOTS];
    private final Change[] log = new Change[RECORDS];
    private int mark = 1;

    // The power, and what is counted over all times of it.
    private int sectorsLeft = NONE;
    private boolean down = false;
    private int sectorsWritten = 0;
    private int pagesCleaned = 0;
    private int pagesMended = 0;

    // Memory.
    private final Frame[] frames = new Frame[FRAMES];
    /** The change with number n waits in row n modulo RECORDS, as it will stand in the log. */
    private final Change[] waiting = new Change[RECORDS];
    private int waitingCount = 0;
    private int nextNumber = 1;
    private int askings = 0;

    private int wordGot = 0;

    public TwinWrites() {
        for (int page = 0; page < PAGES; page++) {
            homes[page] = new Place(page);
        }
        for (int slot = 0; slot < SLOTS; slot++) {
            slots[slot] = new Place(0);
        }
        for (int row = 0; row < RECORDS; row++) {
            log[row] = new Change();
            waiting[row] = new Change();
        }
        for (int k = 0; k < FRAMES; k++) {
            frames[k] = new Frame();
        }
    }

    /** Changes n words of a page: the number of the last change, FULL or LOST. */
    public int change(int page, int from, int n, int word, int step)
            throws IndexOutOfBoundsException, IllegalStateException {
        if (!isIn(page, PAGES) || !isIn(from, WORDS)) {
            throw new IndexOutOfBoundsException("no such page or word");
        }
        if (n < 1 || n > WORDS - from) {
            throw new IndexOutOfBoundsException("no such count of words from there");
        }
        if (down) {
            throw new IllegalStateException("all is down");
        }
        if (room() < n) {
            if (cleanAllAndMark() == LOST) {
                return lose();
            }
            if (room() < n) {
                return FULL;
            }
        }
        Frame f = bring(page);
        if (f == null) {
            return lose();
        }
        changeWords(f, from, n, word, step);
        return nextNumber - 1;
    }

    /** Reads a word of a page for got(): 1 or LOST. */
    public int read(int page, int i) throws IndexOutOfBoundsException, IllegalStateException {
        if (!isIn(page, PAGES) || !isIn(i, WORDS)) {
            throw new IndexOutOfBoundsException("no such page or word");
        }
        if (down) {
            throw new IllegalStateException("all is down");
        }
        Frame f = bring(page);
        if (f == null) {
            wordGot = 0;
            return lose();
        }
        wordGot = f.words[i];
        return 1;
    }

    /** The word that the latest read() got. */
    public int got() {
        return wordGot;
    }

    /** Writes the changes that wait to the log: how many, or LOST. */
    public int sync() throws IllegalStateException {
        if (down) {
            throw new IllegalStateException("all is down");
        }
        int logged = logWaiting();
        return logged == LOST ? lose() : logged;
    }

    /** Cleans all dirty frames and moves the mark: how many pages were cleaned, or LOST. */
    public int checkpoint() throws IllegalStateException {
        if (down) {
            throw new IllegalStateException("all is down");
        }
        int cleaned = cleanAllAndMark();
        return cleaned == LOST ? lose() : cleaned;
    }

    /** Lets the power go at the n-th sector from now on; NONE: it stays. */
    public void power(int n) throws IndexOutOfBoundsException {
        if (n < NONE || n > FARTHEST_POWER) {
            throw new IndexOutOfBoundsException("no such sector to come");
        }
        sectorsLeft = n;
    }

    /** Mends torn homes and does again what was logged: the number of the last change, or LOST. */
    public int recover() throws IllegalStateException {
        if (!down) {
            throw new IllegalStateException("all is not down");
        }
        if (!mendHomes()) {
            return lose();
        }
        int number = redoLogged();
        if (number == LOST) {
            return lose();
        }
        nextNumber = number;
        down = false;
        return nextNumber - 1;
    }

    /** The power goes now: how many changes waited. */
    public int cut() throws IllegalStateException {
        if (down) {
            throw new IllegalStateException("all is down");
        }
        int waited = waitingCount;
        goDown();
        return waited;
    }

    /** What stands on the disk: 0 at home, 1 beside, 2 in the log, 3 in the mark. */
    public int disk(int where, int k, int i) throws IndexOutOfBoundsException {
        switch (where) {
            case 0:
                return placeValue(homes, k, i, HOME_VALUES);
            case 1:
                return placeValue(slots, k, i, SLOT_VALUES);
            case 2:
                return recordValue(k, i);
            case 3:
                return markValue(k, i);
            default:
                throw new IndexOutOfBoundsException("no such part of the disk");
        }
    }

    /** What a frame holds: 0 its page, 1 its stamp, 2 whether it is dirty, 3 + i word i. */
    public int frame(int k, int what) throws IndexOutOfBoundsException {
        if (!isIn(k, FRAMES) || !isIn(what, FRAME_VALUES)) {
            throw new IndexOutOfBoundsException("no such frame or what");
        }
        return frames[k].value(what);
    }

    /** One of the counts 0 .. 6 of the document. */
    public int count(int what) throws IndexOutOfBoundsException {
        switch (what) {
            case 0:
                return down ? 0 : nextNumber - 1;
            case 1:
                return waitingCount;
            case 2:
                return sectorsWritten;
            case 3:
                return down ? 1 : 0;
            case 4:
                return pagesCleaned;
            case 5:
                return pagesMended;
            case 6:
                return down ? 0 : room();
            default:
                throw new IndexOutOfBoundsException("no such what");
        }
    }

    private static boolean isIn(int index, int length) {
        return index >= 0 && index < length;
    }

    private static int placeValue(Place[] places, int k, int i, int values) {
        if (!isIn(k, places.length) || !isIn(i, values)) {
            throw new IndexOutOfBoundsException("no such place, word or sector");
        }
        return places[k].value(i);
    }

    private int recordValue(int k, int i) {
        if (!isIn(k, RECORDS) || !isIn(i, RECORD_VALUES)) {
            throw new IndexOutOfBoundsException("no such record or what");
        }
        return log[k].value(i);
    }

    private int markValue(int k, int i) {
        if (k != 0 || i != 0) {
            throw new IndexOutOfBoundsException("the mark is one number");
        }
        return mark;
    }

    private int room() {
        return mark + RECORDS - nextNumber;
    }

    /**
     * Asked before each sector is written: false if the power goes instead. It is the call of the
     * face that takes all down then; until it does, no other sector is written either.
     */
    private boolean powerHolds() {
        if (sectorsLeft == 0) {
            return false;
        }
        if (sectorsLeft > 0) {
            sectorsLeft--;
        }
        sectorsWritten++;
        return true;
    }

    private int lose() {
        goDown();
        return LOST;
    }

    private void goDown() {
        for (int k = 0; k < FRAMES; k++) {
            frames[k].empty();
        }
        waitingCount = 0;
        sectorsLeft = NONE;
        down = true;
    }

    /** TO SYNC: how many changes were written, or LOST. */
    private int logWaiting() {
        int count = waitingCount;
        int end = nextNumber;
        for (int number = end - count; number < end; number++) {
            if (!powerHolds()) {
                return LOST;
            }
            int row = Math.floorMod(number, RECORDS);
            log[row].copy(waiting[row]);
        }
        waitingCount = 0;
        return count;
    }

    /** Writes the sectors of a page to a place; false if the power went on the way. */
    private boolean writePage(Place to, int page, int stamp, int[] words) {
        for (int sector = 0; sector < SECTORS; sector++) {
            if (!powerHolds()) {
                return false;
            }
            to.putSector(sector, page, stamp, words);
        }
        return true;
    }

    /** TO CLEAN those of frames first .. last that are dirty: how many there were, or LOST. */
    private int cleanDirty(int first, int last) {
        if (logWaiting() == LOST) {
            return LOST;
        }
        int slot = 0;
        for (int k = first; k <= last && slot < SLOTS; k++) {
            Frame f = frames[k];
            if (f.dirty) {
                if (!writePage(slots[slot], f.page, f.stamp, f.words)) {
                    return LOST;
                }
                slot++;
            }
        }
        if (!writeDirtyHome(first, last)) {
            return LOST;
        }
        // Only now: a cleaning that is broken off has cleaned nothing.
        for (int k = first; k <= last; k++) {
            frames[k].dirty = false;
        }
        pagesCleaned += slot;
        return slot;
    }

    private boolean writeDirtyHome(int first, int last) {
        for (int k = first; k <= last; k++) {
            Frame f = frames[k];
            if (f.dirty && isIn(f.page, PAGES) && !writePage(homes[f.page], f.page, f.stamp, f.words)) {
                return false;
            }
        }
        return true;
    }

    /** A CHECKPOINT: how many pages were cleaned, or LOST. */
    private int cleanAllAndMark() {
        int cleaned = cleanDirty(0, FRAMES - 1);
        if (cleaned == LOST || !powerHolds()) {
            return LOST;
        }
        mark = nextNumber;
        return cleaned;
    }

    /** The frame that holds the page now, as it was asked for; null if the power went on the way. */
    private Frame bring(int page) {
        Frame f = frameOf(page);
        if (f == null) {
            int k = frameToFill();
            f = frames[k];
            if (f.dirty && cleanDirty(k, k) == LOST) {
                return null;
            }
            f.fill(page, homes[page]);
        }
        askings++;
        f.asked = askings;
        return f;
    }

    private Frame frameOf(int page) {
        for (int k = 0; k < FRAMES; k++) {
            if (frames[k].page == page) {
                return frames[k];
            }
        }
        return null;
    }

    /** A frame without a page was asked for at 0, before all others, so the least of those comes first. */
    private int frameToFill() {
        int oldest = 0;
        for (int k = 1; k < FRAMES; k++) {
            if (frames[k].asked < frames[oldest].asked) {
                oldest = k;
            }
        }
        return oldest;
    }

    /** There is room in the log for all n, so no change that waits loses its row to another. */
    private void changeWords(Frame f, int from, int n, int word, int step) {
        int next = word;
        for (int at = from; at < from + n; at++) {
            waiting[Math.floorMod(nextNumber, RECORDS)].set(nextNumber, f.page, at, next);
            f.changeWord(at, next, nextNumber);
            waitingCount++;
            nextNumber++;
            next += step;
        }
    }

    /** Writes each home that is torn from beside; false if the power went on the way. */
    private boolean mendHomes() {
        for (int page = 0; page < PAGES; page++) {
            if (!homes[page].isWhole()) {
                int slot = slotToMendFrom(page);
                // A home is only ever torn behind a whole slot, so there is always one.
                if (slot != NONE) {
                    Place beside = slots[slot];
                    if (!writePage(homes[page], page, beside.stamps[0], beside.words)) {
                        return false;
                    }
                    pagesMended++;
                }
            }
        }
        return true;
    }

    private int slotToMendFrom(int page) {
        int best = NONE;
        for (int slot = 0; slot < SLOTS; slot++) {
            Place beside = slots[slot];
            if (beside.isWhole() && beside.pages[0] == page
                    && (best == NONE || beside.stamps[0] > slots[best].stamps[0])) {
                best = slot;
            }
        }
        return best;
    }

    /** Does the logged changes from the mark on again: the first number that was not there, or LOST. */
    private int redoLogged() {
        int end = mark + RECORDS;
        for (int number = mark; number < end; number++) {
            Change c = log[Math.floorMod(number, RECORDS)];
            if (c.number != number || !isIn(c.page, PAGES) || !isIn(c.at, WORDS)) {
                return number;
            }
            Frame f = bring(c.page);
            if (f == null) {
                return LOST;
            }
            if (f.stamp < number) {
                f.changeWord(c.at, c.word, number);
            }
        }
        return end;
    }

    /** A page as it stands on the disk, at home or beside. */
    private static final class Place {
        final int[] words = new int[WORDS];
        final int[] stamps = new int[SECTORS];
        /** At home these never change, so that the same test of being whole serves both. */
        final int[] pages = new int[SECTORS];

        Place(int page) {
            for (int sector = 0; sector < SECTORS; sector++) {
                pages[sector] = page;
            }
        }

        void putSector(int sector, int page, int stamp, int[] from) {
            int start = sector * SECTOR_WORDS;
            for (int i = start; i < start + SECTOR_WORDS; i++) {
                words[i] = from[i];
            }
            stamps[sector] = stamp;
            pages[sector] = page;
        }

        boolean isWhole() {
            for (int sector = 1; sector < SECTORS; sector++) {
                if (stamps[sector] != stamps[0] || pages[sector] != pages[0]) {
                    return false;
                }
            }
            return true;
        }

        int value(int i) {
            if (i < FIRST_STAMP_VALUE) {
                return words[i];
            }
            return i < FIRST_NUMBER_VALUE ? stamps[i - FIRST_STAMP_VALUE] : pages[i - FIRST_NUMBER_VALUE];
        }
    }

    /** A change as it waits, or as a record of the log. */
    private static final class Change {
        int number = 0;
        int page = 0;
        int at = 0;
        int word = 0;

        void set(int newNumber, int newPage, int newAt, int newWord) {
            number = newNumber;
            page = newPage;
            at = newAt;
            word = newWord;
        }

        void copy(Change other) {
            set(other.number, other.page, other.at, other.word);
        }

        int value(int i) {
            switch (i) {
                case 0:
                    return number;
                case 1:
                    return page;
                case 2:
                    return at;
                default:
                    return word;
            }
        }
    }

    /** A page in memory, or none. */
    private static final class Frame {
        final int[] words = new int[WORDS];
        int page = NONE;
        int stamp = 0;
        boolean dirty = false;
        int asked = 0;

        void empty() {
            for (int i = 0; i < WORDS; i++) {
                words[i] = 0;
            }
            page = NONE;
            stamp = 0;
            dirty = false;
            asked = 0;
        }

        void fill(int newPage, Place home) {
            for (int i = 0; i < WORDS; i++) {
                words[i] = home.words[i];
            }
            page = newPage;
            stamp = home.stamps[0];
            dirty = false;
        }

        void changeWord(int at, int word, int number) {
            words[at] = word;
            stamp = number;
            dirty = true;
        }

        int value(int what) {
            switch (what) {
                case 0:
                    return page;
                case 1:
                    return stamp;
                case 2:
                    return dirty ? 1 : 0;
                default:
                    return words[what - FRAME_WORDS_AT];
            }
        }
    }
}
