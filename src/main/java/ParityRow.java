/**
 * A row of disks with parity in turn, before it a journal of whole stripes' parts.
 *
 * A PART of a stripe is a datum (0 .. n - 2) or its parity (n - 1): so the parity's place follows
 * from the data's rule, and parts in the order of their numbers are the data in order, then the parity.
 */
public final class ParityRow {
    public static final int NONE = -1, DOWN = -100, UNKNOWN = -101, OUTSIDE = -102, STATE = -103, FAILED = -105, LOST = -106;

    private static final int STRIPES = 24, WORDS = 8, CELLS = 32, LATEST_CUT = 1000;

    /** A record has three cells or more; one slot more holds the record that is being made. */
    private static final int SLOTS = CELLS / 3 + 1;

    private static final int IS_ON = 0, IS_LOST = 1, IS_NEW = 2;

    private static final int FROM_MEMBER = 0, FROM_JOURNAL = 1, FROM_OTHERS = 2, FROM_NOTHING = 3;

    private static final int WAY_ALL_DATA = 0, WAY_NO_PARITY = 1, WAY_OLD_PARITY = 2, WAY_OTHER_DATA = 3;

    private static final int WRITES = 0, CELL_WRITES = 1, MARK_WRITES = 2, READS = 3, RECORDS = 4, DRAINED = 5,
            DONE_AGAIN = 6, MENDED = 7, HOLES = 8, BY_WAY = 9, COUNTS = 13;

    /** How many members there are: the document's n, the name that five calls have for something else. */
    private final int width;
    private final int data;
    private final Disk[] disks;
    private final Journal log;
    private final int[] tally = new int[COUNTS];
    private final int[] mixed = new int[WORDS];
    private boolean down = false;
    private int writesToCut = NONE;
    private int tear = 0;
    private int nextScrub = 0;

    public ParityRow(int members) {
        width = 3 + Math.floorMod(members, 4);
        data = width - 1;
        disks = new Disk[width];
        for (int m = 0; m < width; m++) {
            disks[m] = new Disk();
        }
        log = new Journal(width);
    }

    public int members() {
        return width;
    }

    public int place(int block, int what) {
        if (!isBlock(block)) {
            return UNKNOWN;
        }
        int stripe = block / data;
        switch (what) {
            case 0:
                return stripe;
            case 1:
                return memberOf(stripe, block % data);
            case 2:
                return parityMember(stripe);
            default:
                return OUTSIDE;
        }
    }

    public int write(int block, int count, int v) {
        if (down) {
            return DOWN;
        }
        if (!isBlock(block)) {
            return UNKNOWN;
        }
        if (count < 1 || count > 2 * data) {
            return OUTSIDE;
        }
        int last = block + count - 1;
        if (!isBlock(last)) {
            return UNKNOWN;
        }
        for (int stripe = block / data; stripe <= last / data; stripe++) {
            int from = Math.max(block, stripe * data);
            int to = Math.min(last, stripe * data + data - 1);
            int failure = writeStripe(stripe, from, to, v + WORDS * (from - block));
            if (failure != 0) {
                return failure;
            }
        }
        return count;
    }

    public int look(int block) {
        if (down) {
            return DOWN;
        }
        if (!isBlock(block)) {
            return UNKNOWN;
        }
        return sourceOf(block / data, block % data);
    }

    public int word(int block, int i) throws IndexOutOfBoundsException, IllegalStateException {
        if (!isBlock(block) || i < 0 || i >= WORDS) {
            throw new IndexOutOfBoundsException("no such block or word");
        }
        if (down) {
            throw new IllegalStateException("the power is gone");
        }
        int stripe = block / data;
        int part = block % data;
        int source = sourceOf(stripe, part);
        if (source == FROM_NOTHING) {
            throw new IllegalStateException("the block comes from nothing");
        }
        clearMixed();
        if (source == FROM_OTHERS) {
            mixOthers(memberOf(stripe, part), stripe);
        } else {
            mixNewest(stripe, part);
        }
        return mixed[i];
    }

    public int drain(int n) {
        if (down) {
            return DOWN;
        }
        if (n < 1 || n > CELLS) {
            return OUTSIDE;
        }
        return drainOldest(Math.min(n, log.records)) ? log.records : LOST;
    }

    public int lose(int member) {
        if (down) {
            return DOWN;
        }
        if (!isMember(member)) {
            return UNKNOWN;
        }
        if (!allOn()) {
            return STATE;
        }
        disks[member].state = IS_LOST;
        disks[member].built = 0;
        return 1;
    }

    public int spare() {
        if (down) {
            return DOWN;
        }
        int m = memberThat(IS_LOST);
        if (m == NONE) {
            return STATE;
        }
        disks[m].replace();
        return m;
    }

    public int build(int n) {
        if (down) {
            return DOWN;
        }
        if (n < 1 || n > STRIPES) {
            return OUTSIDE;
        }
        int m = memberThat(IS_NEW);
        if (m == NONE) {
            return STATE;
        }
        Disk disk = disks[m];
        for (int k = 0; k < n && disk.built < STRIPES; k++) {
            if (!buildStripe(m, disk.built)) {
                return LOST;
            }
        }
        return STRIPES - disk.built;
    }

    public int scrub(int n) {
        if (down) {
            return DOWN;
        }
        if (n < 1 || n > STRIPES) {
            return OUTSIDE;
        }
        if (!allOn()) {
            return STATE;
        }
        int before = tally[MENDED];
        for (int k = 0; k < n; k++) {
            if (!scrubStripe(nextScrub)) {
                return LOST;
            }
            nextScrub = (nextScrub + 1) % STRIPES;
        }
        return tally[MENDED] - before;
    }

    public int rot(int member, int stripe, int i, int mask) {
        if (!isMember(member) || !isStripe(stripe) || i < 0 || i >= WORDS) {
            return UNKNOWN;
        }
        int[] words = disks[member].words;
        words[stripe * WORDS + i] ^= mask;
        return words[stripe * WORDS + i];
    }

    public int cut(int n, int tear) {
        if (down) {
            return DOWN;
        }
        if (!isCut(n) || tear < 0 || tear > WORDS) {
            return OUTSIDE;
        }
        this.writesToCut = n;
        this.tear = tear;
        return 1;
    }

    public int start(int n) {
        if (!down) {
            return STATE;
        }
        if (!isCut(n)) {
            return OUTSIDE;
        }
        down = false;
        writesToCut = n;
        int counted = log.records;
        if (!doAgain(counted) || !putMark(counted)) {
            return LOST;
        }
        // The cut that start was told is for the writes of this call alone.
        writesToCut = NONE;
        return counted;
    }

    public int chunk(int member, int stripe, int i) {
        if (!isMember(member) || !isStripe(stripe)) {
            return UNKNOWN;
        }
        Disk disk = disks[member];
        if (i >= 0 && i < WORDS) {
            return disk.words[stripe * WORDS + i];
        }
        switch (i) {
            case WORDS:
                return disk.sums[stripe];
            case WORDS + 1:
                return disk.torn[stripe] ? 1 : 0;
            case WORDS + 2:
                return disk.isThere(stripe) ? 1 : 0;
            default:
                return OUTSIDE;
        }
    }

    public int member(int m, int what) {
        if (!isMember(m)) {
            return UNKNOWN;
        }
        switch (what) {
            case 0:
                return disks[m].state;
            case 1:
                return disks[m].built;
            case 2:
                return disks[m].written;
            default:
                return OUTSIDE;
        }
    }

    public int journal(int what) {
        switch (what) {
            case 0:
                return down ? CELLS : log.freeCells();
            case 1:
                return recordsKnown();
            case 2:
                return down ? 0 : log.nextSerial();
            case 3:
                return log.markCell;
            case 4:
                return log.markSerial;
            default:
                return OUTSIDE;
        }
    }

    public int record(int k, int what) {
        if (k < 0 || k >= recordsKnown()) {
            return UNKNOWN;
        }
        Entry entry = log.entry(k);
        switch (what) {
            case 0:
                return entry.stripe;
            case 1:
                return entry.parts & allData();
            case 2:
                return entry.has(data) ? 1 : 0;
            case 3:
                return log.markSerial + k;
            case 4:
                return entry.way;
            default:
                return OUTSIDE;
        }
    }

    public int count(int what) {
        return what < 0 || what >= COUNTS ? OUTSIDE : tally[what];
    }

    public int audit() {
        int found = 0;
        for (int stripe = 0; stripe < STRIPES; stripe++) {
            if (countNotThere(stripe) == 0 && !xorIsZero(stripe)) {
                found++;
            }
        }
        return found;
    }

    // ---- what is where

    private boolean isBlock(int block) {
        return block >= 0 && block < STRIPES * data;
    }

    private boolean isMember(int m) {
        return m >= 0 && m < width;
    }

    private static boolean isStripe(int stripe) {
        return stripe >= 0 && stripe < STRIPES;
    }

    private static boolean isCut(int writes) {
        return writes >= NONE && writes <= LATEST_CUT;
    }

    private int parityMember(int stripe) {
        return width - 1 - stripe % width;
    }

    private int memberOf(int stripe, int part) {
        return (parityMember(stripe) + 1 + part) % width;
    }

    private int allData() {
        return (1 << data) - 1;
    }

    private int recordsKnown() {
        return down ? 0 : log.records;
    }

    private int memberThat(int state) {
        for (int m = 0; m < width; m++) {
            if (disks[m].state == state) {
                return m;
            }
        }
        return NONE;
    }

    private boolean allOn() {
        return memberThat(IS_LOST) == NONE && memberThat(IS_NEW) == NONE;
    }

    // ---- what is there

    private int countNotThere(int stripe) {
        int missing = 0;
        for (int m = 0; m < width; m++) {
            if (!disks[m].isThere(stripe)) {
                missing++;
            }
        }
        return missing;
    }

    private boolean othersThere(int member, int stripe) {
        return countNotThere(stripe) == (disks[member].isThere(stripe) ? 0 : 1);
    }

    private int sourceOf(int stripe, int part) {
        if (log.latestWith(stripe, part) != null) {
            return FROM_JOURNAL;
        }
        int m = memberOf(stripe, part);
        if (disks[m].isThere(stripe)) {
            return FROM_MEMBER;
        }
        return othersThere(m, stripe) ? FROM_OTHERS : FROM_NOTHING;
    }

    private boolean isNewestNone(int stripe, int part) {
        return log.latestWith(stripe, part) == null && !disks[memberOf(stripe, part)].isThere(stripe);
    }

    private boolean haveNewest(int stripe, int parts) {
        for (int part = 0; part < width; part++) {
            boolean wanted = (parts >> part & 1) == 1;
            if (wanted && isNewestNone(stripe, part)) {
                return false;
            }
        }
        return true;
    }

    // ---- xor, word by word, into the one row that is used for it

    private void clearMixed() {
        for (int i = 0; i < WORDS; i++) {
            mixed[i] = 0;
        }
    }

    private void mix(int[] words, int at) {
        for (int i = 0; i < WORDS; i++) {
            mixed[i] ^= words[at + i];
        }
    }

    private void mixOthers(int member, int stripe) {
        for (int m = 0; m < width; m++) {
            if (m != member) {
                mix(disks[m].words, stripe * WORDS);
            }
        }
    }

    /** Whether it came from a chunk: the caller knows whether that is a READ. */
    private boolean mixNewest(int stripe, int part) {
        Entry entry = log.latestWith(stripe, part);
        if (entry != null) {
            mix(entry.words, part * WORDS);
            return false;
        }
        mix(disks[memberOf(stripe, part)].words, stripe * WORDS);
        return true;
    }

    private boolean xorIsZero(int stripe) {
        clearMixed();
        mixOthers(NONE, stripe);
        for (int i = 0; i < WORDS; i++) {
            if (mixed[i] != 0) {
                return false;
            }
        }
        return true;
    }

    // ---- writes of devices: each answers whether the power stayed

    private boolean powerStays() {
        tally[WRITES]++;
        if (writesToCut != 0) {
            writesToCut = writesToCut < 0 ? NONE : writesToCut - 1;
            return true;
        }
        writesToCut = NONE;
        down = true;
        nextScrub = 0;
        for (int m = 0; m < width; m++) {
            disks[m].forgetBuilding();
        }
        return false;
    }

    private boolean putChunk(int member, int stripe, int[] words, int at) {
        boolean stays = powerStays();
        disks[member].take(stripe, words, at, stays ? WORDS + 1 : tear);
        return stays;
    }

    private boolean putCells(int cells) {
        for (int k = 0; k < cells; k++) {
            tally[CELL_WRITES]++;
            if (!powerStays()) {
                return false;
            }
        }
        return true;
    }

    /** Writes the MARK behind so many of the oldest records. */
    private boolean putMark(int records) {
        tally[MARK_WRITES]++;
        if (!powerStays()) {
            return false;
        }
        log.free(records);
        return true;
    }

    private boolean putEntry(Entry entry) {
        for (int part = 0; part < width; part++) {
            int m = memberOf(entry.stripe, part);
            if (entry.has(part) && disks[m].isOn(entry.stripe)
                    && !putChunk(m, entry.stripe, entry.words, part * WORDS)) {
                return false;
            }
        }
        return true;
    }

    // ---- the journal

    private boolean drainOldest(int records) {
        for (int k = 0; k < records; k++) {
            if (!putEntry(log.entry(0)) || !putMark(1)) {
                return false;
            }
            tally[DRAINED]++;
        }
        return true;
    }

    private boolean doAgain(int records) {
        for (int k = 0; k < records; k++) {
            if (!putEntry(log.entry(k))) {
                return false;
            }
            tally[DONE_AGAIN]++;
        }
        return true;
    }

    /** Answers 0, or FAILED or LOST. */
    private int writeStripe(int stripe, int from, int to, int v) {
        Entry made = log.made();
        made.begin(stripe);
        for (int block = from; block <= to; block++) {
            made.addDatum(block % data, v + WORDS * (block - from));
        }
        made.way = chooseWay(stripe, made.parts);
        if (made.way == NONE) {
            return FAILED;
        }
        if (made.way != WAY_NO_PARITY) {
            addParity(made);
        }
        if (!drainOldest(log.recordsToFree(made.cells())) || !putCells(made.cells())) {
            return LOST;
        }
        log.addMade();
        tally[RECORDS]++;
        tally[BY_WAY + made.way]++;
        return 0;
    }

    private int chooseWay(int stripe, int written) {
        if (written == allData()) {
            return WAY_ALL_DATA;
        }
        if (!disks[parityMember(stripe)].isOn(stripe)) {
            return WAY_NO_PARITY;
        }
        int byOldParity = needed(WAY_OLD_PARITY, written);
        int byOtherData = needed(WAY_OTHER_DATA, written);
        boolean oldParity = haveNewest(stripe, byOldParity);
        boolean otherData = haveNewest(stripe, byOtherData);
        if (oldParity && otherData) {
            return Integer.bitCount(byOldParity) <= Integer.bitCount(byOtherData) ? WAY_OLD_PARITY : WAY_OTHER_DATA;
        }
        if (oldParity) {
            return WAY_OLD_PARITY;
        }
        return otherData ? WAY_OTHER_DATA : NONE;
    }

    /** The parts, as bits, of which a WAY needs the NEWEST beside the data that are written. */
    private int needed(int way, int written) {
        switch (way) {
            case WAY_OLD_PARITY:
                return written | 1 << data;
            case WAY_OTHER_DATA:
                return allData() & ~written;
            default:
                return 0;
        }
    }

    private void addParity(Entry made) {
        int wanted = needed(made.way, made.parts);
        clearMixed();
        for (int part = 0; part < width; part++) {
            if (made.has(part)) {
                mix(made.words, part * WORDS);
            }
            if ((wanted >> part & 1) == 1 && mixNewest(made.stripe, part)) {
                tally[READS]++;
            }
        }
        made.addWords(data, mixed);
    }

    // ---- building up and scrubbing: each answers whether the power stayed

    private boolean buildStripe(int member, int stripe) {
        if (!drainOldest(log.recordsUpTo(stripe))) {
            return false;
        }
        Disk disk = disks[member];
        if (!othersThere(member, stripe)) {
            disk.torn[stripe] = true;
            tally[HOLES]++;
        } else {
            tally[READS] += data;
            if (!putOthersXor(member, stripe)) {
                return false;
            }
        }
        disk.built = stripe + 1;
        if (disk.built < STRIPES) {
            return true;
        }
        if (!putMark(0)) {
            return false;
        }
        disk.state = IS_ON;
        return true;
    }

    private boolean scrubStripe(int stripe) {
        tally[READS] += width;
        int missing = countNotThere(stripe);
        if (missing > 1 || missing == 0 && xorIsZero(stripe)) {
            return true;
        }
        if (!putOthersXor(missing == 0 ? parityMember(stripe) : firstNotThere(stripe), stripe)) {
            return false;
        }
        tally[MENDED]++;
        return true;
    }

    private int firstNotThere(int stripe) {
        int m = 0;
        while (m < width - 1 && disks[m].isThere(stripe)) {
            m++;
        }
        return m;
    }

    private boolean putOthersXor(int member, int stripe) {
        clearMixed();
        mixOthers(member, stripe);
        return putChunk(member, stripe, mixed, 0);
    }

    /** What a member has of all stripes. */
    private static final class Disk {
        private final int[] words = new int[STRIPES * WORDS];
        private final int[] sums = new int[STRIPES];
        private final boolean[] torn = new boolean[STRIPES];
        private int state = IS_ON;
        /** The member is ON for the stripes below: for all 24 if it is ON, for none if it is LOST. */
        private int built = STRIPES;
        private int written = 0;

        private boolean isOn(int stripe) {
            return stripe < built;
        }

        private boolean isThere(int stripe) {
            return isOn(stripe) && !torn[stripe] && sums[stripe] == sumOf(words, stripe * WORDS);
        }

        private static int sumOf(int[] words, int at) {
            int sum = 0;
            for (int i = 0; i < WORDS; i++) {
                sum += words[at + i] * (2 * i + 1);
            }
            return sum;
        }

        /** Of the eight words and the SUM, in this order, so many are taken; without all it is TORN. */
        private void take(int stripe, int[] from, int at, int taken) {
            for (int i = 0; i < WORDS && i < taken; i++) {
                words[stripe * WORDS + i] = from[at + i];
            }
            if (taken > WORDS) {
                sums[stripe] = sumOf(from, at);
            }
            torn[stripe] = taken <= WORDS;
            written++;
        }

        /** The writes that are counted are the member's, not the disk's: they stay. */
        private void replace() {
            for (int i = 0; i < STRIPES * WORDS; i++) {
                words[i] = 0;
            }
            for (int stripe = 0; stripe < STRIPES; stripe++) {
                sums[stripe] = 0;
                torn[stripe] = false;
            }
            state = IS_NEW;
            built = 0;
        }

        private void forgetBuilding() {
            if (state == IS_NEW) {
                built = 0;
            }
        }
    }

    /** A record of the journal; its SERIAL follows from the MARK's. */
    private static final class Entry {
        private final int[] words;
        private int stripe = 0;
        private int parts = 0;
        private int way = 0;

        private Entry(int members) {
            words = new int[members * WORDS];
        }

        private void begin(int ofStripe) {
            stripe = ofStripe;
            parts = 0;
        }

        private boolean has(int part) {
            return (parts >> part & 1) == 1;
        }

        private int cells() {
            return Integer.bitCount(parts) + 2;
        }

        private void addDatum(int part, int v) {
            parts |= 1 << part;
            for (int i = 0; i < WORDS; i++) {
                words[part * WORDS + i] = v + i;
            }
        }

        private void addWords(int part, int[] from) {
            parts |= 1 << part;
            for (int i = 0; i < WORDS; i++) {
                words[part * WORDS + i] = from[i];
            }
        }
    }

    /**
     * The records that count, from the MARK on. All of them are whole in the cells, so they are there
     * after the power went; the one that was being written then was never added.
     */
    private static final class Journal {
        private final Entry[] slots = new Entry[SLOTS];
        private int oldest = 0;
        private int records = 0;
        private int usedCells = 0;
        private int markCell = 0;
        private int markSerial = 1;

        private Journal(int members) {
            for (int k = 0; k < SLOTS; k++) {
                slots[k] = new Entry(members);
            }
        }

        private Entry entry(int k) {
            return slots[(oldest + k) % SLOTS];
        }

        private Entry made() {
            return entry(records);
        }

        private void addMade() {
            usedCells += made().cells();
            records++;
        }

        private int freeCells() {
            return CELLS - usedCells;
        }

        private int nextSerial() {
            return markSerial + records;
        }

        private Entry latestWith(int stripe, int part) {
            for (int k = records - 1; k >= 0; k--) {
                Entry entry = entry(k);
                if (entry.stripe == stripe && entry.has(part)) {
                    return entry;
                }
            }
            return null;
        }

        /** How many of the oldest records there are up to the last one that has the stripe. */
        private int recordsUpTo(int stripe) {
            int upTo = 0;
            for (int k = 0; k < records; k++) {
                if (entry(k).stripe == stripe) {
                    upTo = k + 1;
                }
            }
            return upTo;
        }

        /** How many of the oldest records must go until so many cells are free. */
        private int recordsToFree(int cells) {
            int free = freeCells();
            int k = 0;
            while (k < records && free < cells) {
                free += entry(k).cells();
                k++;
            }
            return k;
        }

        private void free(int oldestRecords) {
            for (int k = 0; k < oldestRecords && records > 0; k++) {
                int cells = entry(0).cells();
                markCell = (markCell + cells) % CELLS;
                markSerial++;
                usedCells -= cells;
                oldest = (oldest + 1) % SLOTS;
                records--;
            }
        }
    }
}
