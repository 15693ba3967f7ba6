import java.util.Arrays;

/**
 * Pages on a disk, some of them in frames, and a log of what transactions did to them.
 * The document's numbered promises say what each call answers; README.md says how to use it.
 */
public final class ClockPool {
    public static final int NONE = -1;
    public static final int FULL = -2;

    private static final int PAGES = 32;
    private static final int NUMBERS = 8;
    private static final int TRANSACTIONS = 8;
    private static final int MOST_FRAMES = 8;
    private static final int MOST_RECORDS = 400;

    // A page is held as one row, its LSN behind its numbers, so that both always move together.
    private static final int LSN = NUMBERS;
    private static final int ROW = NUMBERS + 1;

    private static final int UPDATE = 0;
    private static final int UNDO = 1;
    private static final int COMMIT = 2;
    private static final int END = 3;

    // The columns of a record, numbered as the call log numbers them.
    private static final int KIND = 0;
    private static final int TRANSACTION = 1;
    private static final int PAGE = 2;
    private static final int NUMBER = 3;
    private static final int WAS = 4;
    private static final int BECOMES = 5;
    private static final int UNDOES = 6;
    private static final int COLUMNS = 7;

    private final Pool pool;
    private final Log records;
    private final boolean[] active;
    private final boolean[] abortBegun;
    private int crashes;
    private int undoneByCrash;

    public ClockPool(int frames) {
        pool = new Pool(Math.max(1, Math.min(MOST_FRAMES, frames)));
        records = new Log();
        active = new boolean[TRANSACTIONS];
        abortBegun = new boolean[TRANSACTIONS];
    }

    public int fetch(int page) throws IllegalArgumentException {
        checkBelow(page, PAGES);
        int at = pool.bring(page, records.flushed);
        if (at < 0) {
            return FULL;
        }
        pool.frames[at].pins++;
        return at;
    }

    public int release(int page) throws IllegalArgumentException, IllegalStateException {
        checkBelow(page, PAGES);
        Frame held = pinnedFrame(page);
        held.pins--;
        return held.pins;
    }

    public int get(int page, int k) throws IllegalArgumentException, IllegalStateException {
        checkBelow(page, PAGES);
        checkBelow(k, NUMBERS);
        return pinnedFrame(page).row[k];
    }

    public int begin() {
        int free = leastInactive();
        if (free < 0 || !records.hasRoomFor(2 + activeOnes())) {
            return FULL;
        }
        active[free] = true;
        return free;
    }

    public int set(int transaction, int page, int k, int value)
            throws IllegalArgumentException, IllegalStateException {
        checkBelow(transaction, TRANSACTIONS);
        checkBelow(page, PAGES);
        checkBelow(k, NUMBERS);
        checkGoesOn(transaction);
        Frame held = pinnedFrame(page);
        // The record itself, the undo that it may need, the ends, and the one more.
        if (!records.hasRoomFor(3 + activeOnes())) {
            return FULL;
        }
        int lsn = records.append(UPDATE, transaction, page, k, held.row[k], value, NONE);
        held.change(k, value, lsn);
        return lsn;
    }

    public int commit(int transaction) throws IllegalArgumentException, IllegalStateException {
        checkBelow(transaction, TRANSACTIONS);
        checkGoesOn(transaction);
        int lsn = records.appendLast(COMMIT, transaction);
        records.flushTo(lsn);
        active[transaction] = false;
        return lsn;
    }

    public int abort(int transaction) throws IllegalArgumentException, IllegalStateException {
        checkBelow(transaction, TRANSACTIONS);
        checkActive(transaction);
        abortBegun[transaction] = true;
        int undone = 0;
        for (int lsn = records.size; lsn >= 1; lsn--) {
            if (records.isOpen(lsn) && records.value(lsn, TRANSACTION) == transaction) {
                if (!undoInPool(lsn)) {
                    return FULL;
                }
                undone++;
            }
        }
        records.appendLast(END, transaction);
        active[transaction] = false;
        abortBegun[transaction] = false;
        return undone;
    }

    public int flush(int lsn) throws IllegalArgumentException {
        if (lsn < 0) {
            throw new IllegalArgumentException();
        }
        records.flushTo(lsn);
        return records.flushed;
    }

    public boolean clean(int page) throws IllegalArgumentException {
        checkBelow(page, PAGES);
        int at = pool.find(page);
        if (at < 0) {
            return false;
        }
        Frame holder = pool.frames[at];
        if (!holder.dirty || holder.row[LSN] > records.flushed) {
            return false;
        }
        pool.writeBack(holder);
        return true;
    }

    public int crash() {
        int gone = records.dropUnflushed();
        pool.clear();
        forgetActiveOnes();
        redoOnDisk();
        undoneByCrash = undoOnDisk();
        endUnended();
        records.flushTo(records.size);
        crashes++;
        return gone;
    }

    public int disk(int page, int k) throws IllegalArgumentException {
        checkBelow(page, PAGES);
        checkBelow(k, ROW);
        return pool.disk[page][k];
    }

    public int frame(int frame, int what) throws IllegalArgumentException {
        checkBelow(frame, pool.frames.length);
        Frame shown = pool.frames[frame];
        switch (what) {
            case 0:
                return shown.page;
            case 1:
                return shown.pins;
            case 2:
                return shown.dirty ? 1 : 0;
            case 3:
                return shown.marked ? 1 : 0;
            case 4:
                return shown.row[LSN];
            default:
                throw new IllegalArgumentException();
        }
    }

    public int log(int lsn, int what) throws IllegalArgumentException {
        checkBelow(what, COLUMNS);
        if (lsn < 1 || lsn > records.size) {
            throw new IllegalArgumentException();
        }
        return records.value(lsn, what);
    }

    public int count(int what) throws IllegalArgumentException {
        switch (what) {
            case 0:
                return records.size;
            case 1:
                return records.flushed;
            case 2:
                return activeOnes();
            case 3:
                return pool.hand;
            case 4:
                return pool.written;
            case 5:
                return pool.come;
            case 6:
                return crashes;
            case 7:
                return undoneByCrash;
            default:
                throw new IllegalArgumentException();
        }
    }

    private static void checkBelow(int number, int bound) {
        if (number < 0 || number >= bound) {
            throw new IllegalArgumentException();
        }
    }

    private void checkActive(int transaction) {
        if (!active[transaction]) {
            throw new IllegalStateException();
        }
    }

    private void checkGoesOn(int transaction) {
        checkActive(transaction);
        if (abortBegun[transaction]) {
            throw new IllegalStateException();
        }
    }

    private Frame pinnedFrame(int page) {
        int at = pool.find(page);
        if (at < 0 || pool.frames[at].pins == 0) {
            throw new IllegalStateException();
        }
        return pool.frames[at];
    }

    private int leastInactive() {
        for (int t = 0; t < TRANSACTIONS; t++) {
            if (!active[t]) {
                return t;
            }
        }
        return NONE;
    }

    private int activeOnes() {
        int ones = 0;
        for (int t = 0; t < TRANSACTIONS; t++) {
            if (active[t]) {
                ones++;
            }
        }
        return ones;
    }

    private void forgetActiveOnes() {
        for (int t = 0; t < TRANSACTIONS; t++) {
            active[t] = false;
            abortBegun[t] = false;
        }
    }

    private boolean undoInPool(int update) {
        int at = pool.bring(records.value(update, PAGE), records.flushed);
        if (at < 0) {
            return false;
        }
        Frame holder = pool.frames[at];
        int number = records.value(update, NUMBER);
        int lsn = records.appendUndo(update, holder.row[number]);
        holder.change(number, records.value(lsn, BECOMES), lsn);
        return true;
    }

    private void redoOnDisk() {
        for (int lsn = 1; lsn <= records.size; lsn++) {
            if (records.changesPage(lsn) && lsn > pool.disk[records.value(lsn, PAGE)][LSN]) {
                putOnDisk(lsn);
            }
        }
    }

    private int undoOnDisk() {
        int undone = 0;
        for (int update = records.size; update >= 1; update--) {
            if (records.isOpen(update)) {
                int[] row = pool.disk[records.value(update, PAGE)];
                putOnDisk(records.appendUndo(update, row[records.value(update, NUMBER)]));
                undone++;
            }
        }
        return undone;
    }

    private void putOnDisk(int lsn) {
        int[] row = pool.disk[records.value(lsn, PAGE)];
        row[records.value(lsn, NUMBER)] = records.value(lsn, BECOMES);
        row[LSN] = lsn;
    }

    private void endUnended() {
        for (int t = 0; t < TRANSACTIONS; t++) {
            if (records.isUnended(t)) {
                records.appendLast(END, t);
            }
        }
    }

    private static final class Frame {
        private final int[] row = new int[ROW];
        private int page = NONE;
        private int pins;
        private boolean dirty;
        private boolean marked;

        private void change(int number, int value, int lsn) {
            row[number] = value;
            row[LSN] = lsn;
            dirty = true;
        }

        // What the log tells of a page must be flushed before the page itself is written.
        private boolean mayBeTaken(int flushed) {
            return pins == 0 && (!dirty || row[LSN] <= flushed);
        }

        private void makeEmpty() {
            Arrays.fill(row, 0);
            page = NONE;
            pins = 0;
            dirty = false;
            marked = false;
        }
    }

    /** The frames and the disk below them. */
    private static final class Pool {
        private final int[][] disk = new int[PAGES][ROW];
        private final Frame[] frames;
        private int hand;
        private int written;
        private int come;

        private Pool(int size) {
            frames = new Frame[size];
            for (int i = 0; i < size; i++) {
                frames[i] = new Frame();
            }
        }

        /** The frame that holds a page; with NONE for a page, the least empty frame. */
        private int find(int page) {
            for (int i = 0; i < frames.length; i++) {
                if (frames[i].page == page) {
                    return i;
                }
            }
            return NONE;
        }

        private int bring(int page, int flushed) {
            int at = find(page);
            if (at < 0) {
                at = roomFor(flushed);
                if (at < 0) {
                    return NONE;
                }
                load(page, frames[at]);
            }
            frames[at].marked = true;
            return at;
        }

        private int roomFor(int flushed) {
            int empty = find(NONE);
            return empty >= 0 ? empty : turnHand(flushed);
        }

        // Two rounds are enough: the first takes away every mark that stands in the way. If none
        // may be taken, no mark goes, and behind two whole rounds the hand is where it was.
        private int turnHand(int flushed) {
            for (int step = 0; step < 2 * frames.length; step++) {
                int at = hand;
                hand = at + 1 < frames.length ? at + 1 : 0;
                if (frames[at].mayBeTaken(flushed)) {
                    if (!frames[at].marked) {
                        return at;
                    }
                    frames[at].marked = false;
                }
            }
            return NONE;
        }

        private void load(int page, Frame into) {
            if (into.dirty) {
                writeBack(into);
            }
            System.arraycopy(disk[page], 0, into.row, 0, ROW);
            into.page = page;
            come++;
        }

        private void writeBack(Frame from) {
            System.arraycopy(from.row, 0, disk[from.page], 0, ROW);
            from.dirty = false;
            written++;
        }

        private void clear() {
            for (int i = 0; i < frames.length; i++) {
                frames[i].makeEmpty();
            }
            hand = 0;
        }
    }

    /** The records, and what follows from them, kept so that no call need search for it. */
    private static final class Log {
        private final int[] cells = new int[(MOST_RECORDS + 1) * COLUMNS];
        private final boolean[] undone = new boolean[MOST_RECORDS + 1];
        private final int[] lastUpdate = new int[TRANSACTIONS];
        private final int[] lastOver = new int[TRANSACTIONS];
        private final int[] openUpdates = new int[TRANSACTIONS];
        private int size;
        private int flushed;

        private int value(int lsn, int column) {
            return cells[lsn * COLUMNS + column];
        }

        private boolean changesPage(int lsn) {
            int kind = value(lsn, KIND);
            return kind == UPDATE || kind == UNDO;
        }

        /** Whether a record is an UPDATE that undoing its transaction would undo. */
        private boolean isOpen(int lsn) {
            return value(lsn, KIND) == UPDATE && !undone[lsn]
                    && lsn > lastOver[value(lsn, TRANSACTION)];
        }

        private boolean isUnended(int transaction) {
            return lastUpdate[transaction] > lastOver[transaction];
        }

        /** Whether so many records fit in beside the undos of all open updates. */
        private boolean hasRoomFor(int more) {
            int needed = size + more;
            for (int t = 0; t < TRANSACTIONS; t++) {
                needed += openUpdates[t];
            }
            return needed <= MOST_RECORDS;
        }

        private int appendUndo(int update, int now) {
            return append(UNDO, value(update, TRANSACTION), value(update, PAGE),
                    value(update, NUMBER), now, value(update, WAS), update);
        }

        private int appendLast(int kind, int transaction) {
            return append(kind, transaction, NONE, NONE, NONE, NONE, NONE);
        }

        private int append(int kind, int transaction, int page, int number,
                int was, int becomes, int undoes) {
            // begin and set keep room for every record that can follow: this only guards the array.
            if (size >= MOST_RECORDS) {
                return size;
            }
            size++;
            int at = size * COLUMNS;
            cells[at + KIND] = kind;
            cells[at + TRANSACTION] = transaction;
            cells[at + PAGE] = page;
            cells[at + NUMBER] = number;
            cells[at + WAS] = was;
            cells[at + BECOMES] = becomes;
            cells[at + UNDOES] = undoes;
            follow(size);
            return size;
        }

        private void follow(int lsn) {
            int transaction = value(lsn, TRANSACTION);
            int kind = value(lsn, KIND);
            undone[lsn] = false;
            if (kind == UPDATE) {
                lastUpdate[transaction] = lsn;
                openUpdates[transaction]++;
            } else if (kind == UNDO) {
                undone[value(lsn, UNDOES)] = true;
                openUpdates[transaction]--;
            } else {
                lastOver[transaction] = lsn;
                openUpdates[transaction] = 0;
            }
        }

        private void flushTo(int lsn) {
            flushed = Math.max(flushed, Math.min(lsn, size));
        }

        private int dropUnflushed() {
            int gone = size - flushed;
            size = flushed;
            Arrays.fill(lastUpdate, 0);
            Arrays.fill(lastOver, 0);
            Arrays.fill(openUpdates, 0);
            for (int lsn = 1; lsn <= size; lsn++) {
                follow(lsn);
            }
            return gone;
        }
    }
}
