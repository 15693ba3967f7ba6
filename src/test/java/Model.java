import java.util.ArrayList;
import java.util.List;

/**
 * The document's words once more, as slow and as plain as can be: whatever follows from the
 * records is searched for in them each time. It answers as Run.Call does, by text.
 */
final class Model {
    private static final int UPDATE = 0;
    private static final int UNDO = 1;
    private static final int COMMIT = 2;
    private static final int END = 3;

    private static final String ARGUMENT = "throws.IllegalArgumentException";
    private static final String STATE = "throws.IllegalStateException";
    private static final String FULL = "-2";

    private static final class Page {
        int[] numbers = new int[8];
        int lsn;

        Page copy() {
            Page copy = new Page();
            copy.numbers = numbers.clone();
            copy.lsn = lsn;
            return copy;
        }
    }

    private static final class Slot {
        int page;
        Page held;
        int pins;
        boolean dirty;
        boolean marked = true;
    }

    private record Entry(int kind, int transaction, int page, int k, int was, int becomes, int undoes) {
        int column(int what) {
            return new int[] {kind, transaction, page, k, was, becomes, undoes}[what];
        }
    }

    private final Page[] disk = new Page[32];
    private final Slot[] slots;
    private final List<Entry> log = new ArrayList<>();
    private final boolean[] active = new boolean[8];
    private final boolean[] begun = new boolean[8];
    private int flushed;
    private int hand;
    private int written;
    private int come;
    private int crashes;
    private int undoneByCrash;

    Model(int frames) {
        slots = new Slot[frames < 1 ? 1 : frames > 8 ? 8 : frames];
        for (int page = 0; page < 32; page++) {
            disk[page] = new Page();
        }
    }

    String answer(Run.Call call) {
        int[] a = call.args();
        return switch (call.name()) {
            case "fetch" -> fetch(a[0]);
            case "release" -> release(a[0]);
            case "get" -> get(a[0], a[1]);
            case "begin" -> begin();
            case "set" -> set(a[0], a[1], a[2], a[3]);
            case "commit" -> commit(a[0]);
            case "abort" -> abort(a[0]);
            case "flush" -> flush(a[0]);
            case "clean" -> clean(a[0]);
            case "crash" -> crash();
            case "disk" -> disk(a[0], a[1]);
            case "frame" -> frame(a[0], a[1]);
            case "log" -> log(a[0], a[1]);
            case "count" -> count(a[0]);
            default -> throw new AssertionError(call.name());
        };
    }

    private static boolean outside(int number, int least, int most) {
        return number < least || number > most;
    }

    private Slot slotOf(int page) {
        for (Slot slot : slots) {
            if (slot != null && slot.page == page) {
                return slot;
            }
        }
        return null;
    }

    private boolean pinned(int page) {
        return slotOf(page) != null && slotOf(page).pins > 0;
    }

    private boolean passedForEver(Slot slot) {
        return slot.pins > 0 || (slot.dirty && slot.held.lsn > flushed);
    }

    private int bring(int page) {
        for (int i = 0; i < slots.length; i++) {
            if (slots[i] != null && slots[i].page == page) {
                slots[i].marked = true;
                return i;
            }
        }
        int at = place();
        if (at >= 0) {
            slots[at] = new Slot();
            slots[at].page = page;
            slots[at].held = disk[page].copy();
            come++;
        }
        return at;
    }

    private int place() {
        boolean any = false;
        for (int i = 0; i < slots.length; i++) {
            if (slots[i] == null) {
                return i;
            }
            any |= !passedForEver(slots[i]);
        }
        while (any) {
            int at = hand;
            Slot slot = slots[at];
            hand = (hand + 1) % slots.length;
            if (passedForEver(slot)) {
                continue;
            }
            if (slot.marked) {
                slot.marked = false;
                continue;
            }
            if (slot.dirty) {
                write(slot);
            }
            return at;
        }
        return -2;
    }

    private void write(Slot slot) {
        disk[slot.page] = slot.held.copy();
        slot.dirty = false;
        written++;
    }

    private boolean undoTells(int lsn) {
        return log.stream().anyMatch(e -> e.kind == UNDO && e.undoes == lsn);
    }

    /** The LSNs of the UPDATES that undoing a transaction undoes, the last one first. */
    private List<Integer> toUndo(int transaction) {
        List<Integer> lsns = new ArrayList<>();
        for (int lsn = log.size(); lsn >= 1; lsn--) {
            Entry e = log.get(lsn - 1);
            if (e.transaction == transaction) {
                if (e.kind == COMMIT || e.kind == END) {
                    break;
                }
                if (e.kind == UPDATE && !undoTells(lsn)) {
                    lsns.add(lsn);
                }
            }
        }
        return lsns;
    }

    private int actives() {
        int n = 0;
        for (boolean is : active) {
            n += is ? 1 : 0;
        }
        return n;
    }

    private int undosOfActives() {
        int n = 0;
        for (int t = 0; t < 8; t++) {
            n += active[t] ? toUndo(t).size() : 0;
        }
        return n;
    }

    private int append(Entry entry) {
        log.add(entry);
        if (log.size() > 400) {
            throw new AssertionError("the log has over 400 records");
        }
        return log.size();
    }

    private void undo(int update, Page page) {
        Entry e = log.get(update - 1);
        page.lsn = append(new Entry(UNDO, e.transaction, e.page, e.k, page.numbers[e.k], e.was, update));
        page.numbers[e.k] = e.was;
    }

    private String fetch(int page) {
        if (outside(page, 0, 31)) {
            return ARGUMENT;
        }
        int at = bring(page);
        if (at >= 0) {
            slots[at].pins++;
        }
        return "" + at;
    }

    private String release(int page) {
        if (outside(page, 0, 31)) {
            return ARGUMENT;
        }
        return pinned(page) ? "" + --slotOf(page).pins : STATE;
    }

    private String get(int page, int k) {
        if (outside(page, 0, 31) || outside(k, 0, 7)) {
            return ARGUMENT;
        }
        return pinned(page) ? "" + slotOf(page).held.numbers[k] : STATE;
    }

    private String begin() {
        if (400 - log.size() < undosOfActives() + actives() + 2) {
            return FULL;
        }
        for (int t = 0; t < 8; t++) {
            if (!active[t]) {
                active[t] = true;
                return "" + t;
            }
        }
        return FULL;
    }

    private String set(int t, int page, int k, int value) {
        if (outside(t, 0, 7) || outside(page, 0, 31) || outside(k, 0, 7)) {
            return ARGUMENT;
        }
        if (!active[t] || begun[t] || !pinned(page)) {
            return STATE;
        }
        if (400 - log.size() < 1 + (undosOfActives() + 1) + actives() + 1) {
            return FULL;
        }
        Slot slot = slotOf(page);
        slot.held.lsn = append(new Entry(UPDATE, t, page, k, slot.held.numbers[k], value, -1));
        slot.held.numbers[k] = value;
        slot.dirty = true;
        return "" + slot.held.lsn;
    }

    private String commit(int t) {
        if (outside(t, 0, 7)) {
            return ARGUMENT;
        }
        if (!active[t] || begun[t]) {
            return STATE;
        }
        flushed = append(new Entry(COMMIT, t, -1, -1, -1, -1, -1));
        active[t] = false;
        return "" + flushed;
    }

    private String abort(int t) {
        if (outside(t, 0, 7)) {
            return ARGUMENT;
        }
        if (!active[t]) {
            return STATE;
        }
        begun[t] = true;
        List<Integer> lsns = toUndo(t);
        for (int lsn : lsns) {
            int at = bring(log.get(lsn - 1).page);
            if (at < 0) {
                return FULL;
            }
            undo(lsn, slots[at].held);
            slots[at].dirty = true;
        }
        append(new Entry(END, t, -1, -1, -1, -1, -1));
        active[t] = false;
        begun[t] = false;
        return "" + lsns.size();
    }

    private String flush(int lsn) {
        if (lsn < 0) {
            return ARGUMENT;
        }
        int upTo = lsn > log.size() ? log.size() : lsn;
        flushed = upTo > flushed ? upTo : flushed;
        return "" + flushed;
    }

    private String clean(int page) {
        if (outside(page, 0, 31)) {
            return ARGUMENT;
        }
        Slot slot = slotOf(page);
        if (slot == null || !slot.dirty || slot.held.lsn > flushed) {
            return "0";
        }
        write(slot);
        return "1";
    }

    private String crash() {
        int gone = log.size() - flushed;
        while (log.size() > flushed) {
            log.remove(log.size() - 1);
        }
        for (int i = 0; i < slots.length; i++) {
            slots[i] = null;
        }
        hand = 0;
        for (int lsn = 1; lsn <= log.size(); lsn++) {
            Entry e = log.get(lsn - 1);
            if ((e.kind == UPDATE || e.kind == UNDO) && lsn > disk[e.page].lsn) {
                disk[e.page].numbers[e.k] = e.becomes;
                disk[e.page].lsn = lsn;
            }
        }
        undoAfterCrash();
        flushed = log.size();
        crashes++;
        for (int t = 0; t < 8; t++) {
            active[t] = false;
            begun[t] = false;
        }
        return "" + gone;
    }

    private void undoAfterCrash() {
        List<Integer> losers = new ArrayList<>();
        List<Integer> lsns = new ArrayList<>();
        for (int t = 0; t < 8; t++) {
            if (notEnded(t)) {
                losers.add(t);
                lsns.addAll(toUndo(t));
            }
        }
        lsns.sort((a, b) -> b - a);
        for (int lsn : lsns) {
            undo(lsn, disk[log.get(lsn - 1).page]);
        }
        for (int t : losers) {
            append(new Entry(END, t, -1, -1, -1, -1, -1));
        }
        undoneByCrash = lsns.size();
    }

    private boolean notEnded(int t) {
        boolean open = false;
        for (Entry e : log) {
            if (e.transaction == t) {
                open = e.kind == UPDATE || (open && e.kind == UNDO);
            }
        }
        return open;
    }

    private String disk(int page, int k) {
        if (outside(page, 0, 31) || outside(k, 0, 8)) {
            return ARGUMENT;
        }
        return "" + (k == 8 ? disk[page].lsn : disk[page].numbers[k]);
    }

    private String frame(int frame, int what) {
        if (outside(frame, 0, slots.length - 1) || outside(what, 0, 4)) {
            return ARGUMENT;
        }
        Slot slot = slots[frame];
        if (slot == null) {
            return what == 0 ? "-1" : "0";
        }
        return "" + new int[] {slot.page, slot.pins, slot.dirty ? 1 : 0, slot.marked ? 1 : 0,
            slot.held.lsn}[what];
    }

    private String log(int lsn, int what) {
        if (outside(lsn, 1, log.size()) || outside(what, 0, 6)) {
            return ARGUMENT;
        }
        return "" + log.get(lsn - 1).column(what);
    }

    private String count(int what) {
        if (outside(what, 0, 7)) {
            return ARGUMENT;
        }
        return "" + new int[] {log.size(), flushed, actives(), hand, written, come, crashes,
            undoneByCrash}[what];
    }

    int records() {
        return log.size();
    }
}
