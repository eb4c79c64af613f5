import java.util.ArrayList;
import java.util.List;
import java.util.Random;
import java.util.TreeMap;

// Long runs of calls, all answers against a plain model that has the journal's cells one by one and reads
// them again after power came back. The seeds are fixed, so each run is the same each time.
public final class ModelTest {
    private static final int RUNS = 1200, CALLS = 360;

    /** What an object answers after so many calls is free: it is not asked more. */
    private static final int MOST_CALLS = 512;
    private static final int NONE = ParityRow.NONE, DOWN = ParityRow.DOWN, UNKNOWN = ParityRow.UNKNOWN,
            OUTSIDE = ParityRow.OUTSIDE, STATE = ParityRow.STATE, FAILED = ParityRow.FAILED, LOST = ParityRow.LOST;
    private static final long BOUNDS = 1L << 40, ILLEGAL = 1L << 41;

    private static final class PowerWent extends RuntimeException {
        private static final long serialVersionUID = 1L;
    }

    private static final class Chunk {
        int[] words = new int[8];
        int sum;
        boolean torn;
    }

    private static final class Rec {
        int stripe, serial, way;
        TreeMap<Integer, int[]> data = new TreeMap<>();
        int[] parity;

        int cells() {
            return 1 + data.size() + (parity == null ? 0 : 1) + 1;
        }
    }

    private static final class Cell {
        Rec of;
        int nth;
        boolean whole;
    }

    private static final class Model {
        final int n;
        final Chunk[][] chunks;
        final int[] kind, built, written;
        final Cell[] cells = new Cell[32];
        int markCell = 0, markSerial = 1;
        List<Rec> records = new ArrayList<>();
        int nextCell = 0, nextSerial = 1, scrubAt = 0;
        boolean down = false;
        int cutAt = NONE, tear = 0;
        final int[] counts = new int[13];

        Model(int members) {
            n = 3 + (int) (((long) members % 4 + 4) % 4);
            chunks = new Chunk[n][24];
            kind = new int[n];
            built = new int[n];
            written = new int[n];
            for (int m = 0; m < n; m++) {
                newDisk(m);
            }
        }

        void newDisk(int m) {
            for (int s = 0; s < 24; s++) {
                chunks[m][s] = new Chunk();
            }
        }

        int parityOf(int s) {
            return n - 1 - s % n;
        }

        int datumOf(int s, int d) {
            return (parityOf(s) + 1 + d) % n;
        }

        boolean on(int m, int s) {
            return kind[m] == 0 || kind[m] == 2 && s < built[m];
        }

        boolean there(int m, int s) {
            Chunk c = chunks[m][s];
            return on(m, s) && !c.torn && c.sum == sum(c.words);
        }

        static int sum(int[] words) {
            int sum = 0;
            for (int i = 0; i < 8; i++) {
                sum += words[i] * (2 * i + 1);
            }
            return sum;
        }

        static int[] xor(List<int[]> all) {
            int[] x = new int[8];
            for (int[] one : all) {
                for (int i = 0; i < 8; i++) {
                    x[i] ^= one[i];
                }
            }
            return x;
        }

        boolean cutNow() {
            counts[0]++;
            if (cutAt == 0) {
                cutAt = NONE;
                return true;
            }
            if (cutAt > 0) {
                cutAt--;
            }
            return false;
        }

        void gone() {
            down = true;
            records = new ArrayList<>();
            nextSerial = 0;
            scrubAt = 0;
            for (int m = 0; m < n; m++) {
                if (kind[m] == 2) {
                    built[m] = 0;
                }
            }
            throw new PowerWent();
        }

        void writeChunk(int m, int s, int[] words) {
            written[m]++;
            Chunk c = chunks[m][s];
            if (cutNow()) {
                for (int i = 0; i < tear; i++) {
                    c.words[i] = words[i];
                }
                c.torn = true;
                gone();
            }
            c.words = words.clone();
            c.sum = sum(words);
            c.torn = false;
        }

        void writeMark(int cell, int serial) {
            counts[2]++;
            if (cutNow()) {
                gone();
            }
            markCell = cell;
            markSerial = serial;
        }

        void writeRecord(Rec r) {
            for (int k = 0; k < r.cells(); k++) {
                counts[1]++;
                Cell c = new Cell();
                c.of = r;
                c.nth = k;
                c.whole = !cutNow();
                cells[(nextCell + k) % 32] = c;
                if (!c.whole) {
                    gone();
                }
            }
            nextCell = (nextCell + r.cells()) % 32;
            nextSerial++;
            records.add(r);
            counts[4]++;
            counts[9 + r.way]++;
        }

        int free() {
            int free = 32;
            for (Rec r : records) {
                free -= r.cells();
            }
            return free;
        }

        /** The record that is whole at a cell with a serial, as the cells tell it. */
        Rec readRecord(int cell, int serial) {
            Cell first = cells[cell];
            if (first == null || first.nth != 0 || first.of.serial != serial) {
                return null;
            }
            for (int k = 0; k < first.of.cells(); k++) {
                Cell c = cells[(cell + k) % 32];
                if (c == null || !c.whole || c.of != first.of || c.nth != k) {
                    return null;
                }
            }
            return first.of;
        }

        void spread(Rec r) {
            for (int d : r.data.keySet()) {
                if (on(datumOf(r.stripe, d), r.stripe)) {
                    writeChunk(datumOf(r.stripe, d), r.stripe, r.data.get(d));
                }
            }
            if (r.parity != null && on(parityOf(r.stripe), r.stripe)) {
                writeChunk(parityOf(r.stripe), r.stripe, r.parity);
            }
        }

        void drainOne() {
            Rec r = records.get(0);
            spread(r);
            writeMark((markCell + r.cells()) % 32, r.serial + 1);
            records.remove(0);
            counts[5]++;
        }

        int[] inJournal(int s, int d) {
            int[] found = null;
            for (Rec r : records) {
                int[] has = r.stripe != s ? null : d < 0 ? r.parity : r.data.get(d);
                found = has == null ? found : has;
            }
            return found;
        }

        int[] newest(int s, int d) {
            int m = d < 0 ? parityOf(s) : datumOf(s, d);
            int[] found = inJournal(s, d);
            return found != null ? found : there(m, s) ? chunks[m][s].words : null;
        }

        /** The words to be mixed of these data (-1 the parity), or null if one of them is none. */
        List<int[]> newestOf(int s, List<Integer> ds) {
            List<int[]> all = new ArrayList<>();
            for (int d : ds) {
                if (newest(s, d) == null) {
                    return null;
                }
                all.add(newest(s, d));
            }
            return all;
        }

        boolean writeStripe(int s, TreeMap<Integer, int[]> data) {
            Rec r = new Rec();
            r.stripe = s;
            r.data = data;
            r.serial = nextSerial;
            List<int[]> mixed = new ArrayList<>(data.values());
            if (data.size() == n - 1) {
                r.way = 0;
                r.parity = xor(mixed);
            } else if (!on(parityOf(s), s)) {
                r.way = 1;
            } else {
                List<Integer> two = new ArrayList<>(data.keySet());
                two.add(-1);
                List<Integer> three = new ArrayList<>();
                for (int d = 0; d < n - 1; d++) {
                    if (!data.containsKey(d)) {
                        three.add(d);
                    }
                }
                r.way = two.size() <= three.size() ? 2 : 3;
                if (newestOf(s, r.way == 2 ? two : three) == null) {
                    r.way = 5 - r.way;
                }
                List<Integer> taken = r.way == 2 ? two : three;
                if (newestOf(s, taken) == null) {
                    return false;
                }
                for (int d : taken) {
                    counts[3] += inJournal(s, d) == null ? 1 : 0;
                }
                mixed.addAll(newestOf(s, taken));
                r.parity = xor(mixed);
            }
            while (free() < r.cells()) {
                drainOne();
            }
            writeRecord(r);
            return true;
        }

        /** The other chunks' words of a stripe, or null if one of them is not THERE. */
        List<int[]> others(int member, int s) {
            List<int[]> all = new ArrayList<>();
            for (int m = 0; m < n; m++) {
                if (m != member) {
                    if (!there(m, s)) {
                        return null;
                    }
                    all.add(chunks[m][s].words);
                }
            }
            return all;
        }

        int find(int wanted) {
            for (int m = 0; m < n; m++) {
                if (kind[m] == wanted) {
                    return m;
                }
            }
            return NONE;
        }

        boolean block(int b) {
            return 0 <= b && b < 24 * (n - 1);
        }

        boolean member(int m) {
            return 0 <= m && m < n;
        }

        int place(int b, int what) {
            int s = b / (n - 1);
            return !block(b) ? UNKNOWN : what == 0 ? s : what == 1 ? datumOf(s, b % (n - 1))
                    : what == 2 ? parityOf(s) : OUTSIDE;
        }

        int write(int b, int count, int v) {
            if (down) {
                return DOWN;
            }
            if (!block(b)) {
                return UNKNOWN;
            }
            if (count < 1 || count > 2 * (n - 1)) {
                return OUTSIDE;
            }
            if (!block(b + count - 1)) {
                return UNKNOWN;
            }
            TreeMap<Integer, TreeMap<Integer, int[]>> stripes = new TreeMap<>();
            for (int k = 0; k < count; k++) {
                int[] words = new int[8];
                for (int i = 0; i < 8; i++) {
                    words[i] = v + 8 * k + i;
                }
                stripes.computeIfAbsent((b + k) / (n - 1), s -> new TreeMap<>()).put((b + k) % (n - 1), words);
            }
            for (int s : stripes.keySet()) {
                if (!writeStripe(s, stripes.get(s))) {
                    return FAILED;
                }
            }
            return count;
        }

        int look(int b) {
            if (down) {
                return DOWN;
            }
            if (!block(b)) {
                return UNKNOWN;
            }
            int s = b / (n - 1);
            int d = b % (n - 1);
            return inJournal(s, d) != null ? 1 : newest(s, d) != null ? 0 : others(datumOf(s, d), s) != null ? 2 : 3;
        }

        long word(int b, int i) {
            if (!block(b) || i < 0 || i > 7) {
                return BOUNDS;
            }
            int from = look(b);
            int s = b / (n - 1);
            int d = b % (n - 1);
            return from == DOWN || from == 3 ? ILLEGAL
                    : from == 2 ? xor(others(datumOf(s, d), s))[i] : newest(s, d)[i];
        }

        int drain(int k) {
            if (down) {
                return DOWN;
            }
            if (k < 1 || k > 32) {
                return OUTSIDE;
            }
            for (int i = 0; i < k && !records.isEmpty(); i++) {
                drainOne();
            }
            return records.size();
        }

        int lose(int m) {
            if (down) {
                return DOWN;
            }
            if (!member(m)) {
                return UNKNOWN;
            }
            if (find(1) != NONE || find(2) != NONE) {
                return STATE;
            }
            kind[m] = 1;
            return 1;
        }

        int spare() {
            if (down) {
                return DOWN;
            }
            int m = find(1);
            if (m == NONE) {
                return STATE;
            }
            newDisk(m);
            kind[m] = 2;
            built[m] = 0;
            return m;
        }

        int build(int k) {
            if (down) {
                return DOWN;
            }
            if (k < 1 || k > 24) {
                return OUTSIDE;
            }
            int m = find(2);
            if (m == NONE) {
                return STATE;
            }
            for (int i = 0; i < k && kind[m] == 2; i++) {
                int s = built[m];
                while (records.stream().anyMatch(r -> r.stripe == s)) {
                    drainOne();
                }
                List<int[]> others = others(m, s);
                if (others == null) {
                    chunks[m][s].torn = true;
                    counts[8]++;
                } else {
                    counts[3] += n - 1;
                    writeChunk(m, s, xor(others));
                }
                built[m]++;
                if (built[m] == 24) {
                    writeMark(markCell, markSerial);
                    kind[m] = 0;
                }
            }
            return 24 - built[m];
        }

        int scrub(int k) {
            if (down) {
                return DOWN;
            }
            if (k < 1 || k > 24) {
                return OUTSIDE;
            }
            if (find(1) != NONE || find(2) != NONE) {
                return STATE;
            }
            int mended = 0;
            for (int i = 0; i < k; i++) {
                int s = scrubAt;
                counts[3] += n;
                int bad = 0;
                int last = NONE;
                for (int m = 0; m < n; m++) {
                    if (!there(m, s)) {
                        bad++;
                        last = m;
                    }
                }
                if (bad == 0 && uneven(s)) {
                    last = parityOf(s);
                }
                if (bad < 2 && last != NONE) {
                    writeChunk(last, s, xor(others(last, s)));
                    counts[7]++;
                    mended++;
                }
                scrubAt = (s + 1) % 24;
            }
            return mended;
        }

        boolean uneven(int s) {
            List<int[]> all = others(NONE, s);
            if (all == null) {
                return false;
            }
            for (int x : xor(all)) {
                if (x != 0) {
                    return true;
                }
            }
            return false;
        }

        int rot(int m, int s, int i, int mask) {
            return !member(m) || s < 0 || s > 23 || i < 0 || i > 7 ? UNKNOWN : (chunks[m][s].words[i] ^= mask);
        }

        int cut(int at, int newTear) {
            if (down) {
                return DOWN;
            }
            if (at < -1 || at > 1000 || newTear < 0 || newTear > 8) {
                return OUTSIDE;
            }
            cutAt = at;
            tear = newTear;
            return 1;
        }

        int start(int at) {
            if (!down) {
                return STATE;
            }
            if (at < -1 || at > 1000) {
                return OUTSIDE;
            }
            down = false;
            cutAt = at;
            int cell = markCell;
            int serial = markSerial;
            int counted = 0;
            for (Rec r = readRecord(cell, serial); r != null; r = readRecord(cell, serial)) {
                spread(r);
                counts[6]++;
                counted++;
                cell = (cell + r.cells()) % 32;
                serial++;
            }
            writeMark(cell, serial);
            cutAt = NONE;
            nextCell = cell;
            nextSerial = serial;
            return counted;
        }

        int chunk(int m, int s, int i) {
            if (!member(m) || s < 0 || s > 23) {
                return UNKNOWN;
            }
            Chunk c = chunks[m][s];
            return i < 0 || i > 10 ? OUTSIDE : i < 8 ? c.words[i] : i == 8 ? c.sum
                    : i == 9 ? (c.torn ? 1 : 0) : there(m, s) ? 1 : 0;
        }

        int member(int m, int what) {
            return !member(m) ? UNKNOWN : what == 0 ? kind[m]
                    : what == 1 ? (kind[m] == 0 ? 24 : kind[m] == 1 ? 0 : built[m])
                    : what == 2 ? written[m] : OUTSIDE;
        }

        int journal(int what) {
            return what == 0 ? free() : what == 1 ? records.size() : what == 2 ? nextSerial
                    : what == 3 ? markCell : what == 4 ? markSerial : OUTSIDE;
        }

        int record(int k, int what) {
            if (k < 0 || k >= records.size()) {
                return UNKNOWN;
            }
            Rec r = records.get(k);
            int bits = 0;
            for (int d : r.data.keySet()) {
                bits += 1 << d;
            }
            return what == 0 ? r.stripe : what == 1 ? bits : what == 2 ? (r.parity == null ? 0 : 1)
                    : what == 3 ? r.serial : what == 4 ? r.way : OUTSIDE;
        }

        int count(int what) {
            return what < 0 || what > 12 ? OUTSIDE : counts[what];
        }

        int audit() {
            int found = 0;
            for (int s = 0; s < 24; s++) {
                found += uneven(s) ? 1 : 0;
            }
            return found;
        }
    }

    /** The calls of a run so far, and a row with the same past to be asked: a new one when its calls are used up. */
    private static final class Past {
        final int members;
        final List<int[]> calls = new ArrayList<>();
        private ParityRow row = null;
        private int used = 0;

        Past(int members) {
            this.members = members;
        }

        void add(int... call) {
            calls.add(call);
            row = null;
        }

        ParityRow ask() {
            if (row == null || used == MOST_CALLS) {
                row = new ParityRow(members);
                for (int[] c : calls) {
                    answered(row, c[0], c[1], c[2], c[3], c[4]);
                }
                used = calls.size();
            }
            used++;
            return row;
        }
    }

    private static int wrong = 0;
    private static final int[] seen = new int[8];

    private static void due(String call, long got, long want) {
        if (got != want) {
            wrong++;
            System.out.println(call + " answered " + got + ", due is " + want);
        }
    }

    private static long wordOf(ParityRow row, int b, int i) {
        try {
            return row.word(b, i);
        } catch (IndexOutOfBoundsException e) {
            return BOUNDS;
        } catch (IllegalStateException e) {
            return ILLEGAL;
        }
    }

    /** Mostly a value from lo to hi; now and then one beside them or far away. */
    private static int pick(Random random, int lo, int hi) {
        int[] odd = {lo - 1, hi + 1, Integer.MIN_VALUE, Integer.MAX_VALUE};
        return random.nextInt(40) == 0 ? odd[random.nextInt(4)] : lo + random.nextInt(hi - lo + 1);
    }

    private static long modelled(Model model, int kind, int a, int b, int c, int d) {
        try {
            switch (kind) {
                case 0: return model.write(a, b, c);
                case 1: return model.drain(a);
                case 2: return model.lose(a);
                case 3: return model.spare();
                case 4: return model.build(a);
                case 5: return model.scrub(a);
                case 6: return model.rot(a, b, c, d);
                case 7: return model.cut(a, b);
                case 8: return model.start(a);
                case 9: return model.look(a);
                case 10: return model.word(a, b);
                default: return model.place(a, b);
            }
        } catch (PowerWent e) {
            return LOST;
        }
    }

    private static long answered(ParityRow row, int kind, int a, int b, int c, int d) {
        switch (kind) {
            case 0: return row.write(a, b, c);
            case 1: return row.drain(a);
            case 2: return row.lose(a);
            case 3: return row.spare();
            case 4: return row.build(a);
            case 5: return row.scrub(a);
            case 6: return row.rot(a, b, c, d);
            case 7: return row.cut(a, b);
            case 8: return row.start(a);
            case 9: return row.look(a);
            case 10: return wordOf(row, a, b);
            default: return row.place(a, b);
        }
    }

    private static void call(Random random, int[] weights, ParityRow row, Past past, Model model, String where) {
        int n = model.n;
        int blocks = 24 * (n - 1);
        int sum = 0;
        for (int w : weights) {
            sum += w;
        }
        int at = random.nextInt(sum);
        int kind = 0;
        while (at >= weights[kind]) {
            at -= weights[kind];
            kind++;
        }
        if (model.down && random.nextInt(3) == 0) {
            kind = 8;
        }
        int near = random.nextInt(3) == 0 ? blocks - 1 : 3 * (n - 1) - 1;
        int[] first = {near, 32, n - 1, 0, 24, 24, n - 1, 30, 25, near, near, blocks - 1};
        int[] least = {0, 1, 0, 0, 1, 1, 0, -1, -1, 0, 0, 0};
        int most = kind == 1 && random.nextBoolean() ? 3 : first[kind];
        int a = pick(random, least[kind], most);
        int b = kind == 0 ? pick(random, 1, 2 * (n - 1)) : kind == 6 ? pick(random, 0, random.nextBoolean() ? 2 : 23)
                : kind == 7 ? pick(random, 0, 8) : kind == 10 ? pick(random, 0, 7) : pick(random, 0, 2);
        int c = kind == 6 ? pick(random, 0, 7) : random.nextInt();
        int d = random.nextInt(4) == 0 ? random.nextInt() : 1 << random.nextInt(3);
        past.add(kind, a, b, c, d);
        long want = modelled(model, kind, a, b, c, d);
        due(where + " call " + kind + " (" + a + ", " + b + ", " + c + ", " + d + ")",
                answered(row, kind, a, b, c, d), want);
        seen[want == LOST ? 0 : want == FAILED ? 1 : want == STATE ? 2 : want == DOWN ? 3 : 4]++;
    }

    private static void compare(Past past, Model model, boolean all, String where) {
        for (int k = -1; k <= 13; k++) {
            due(where + " count " + k, past.ask().count(k), model.count(k));
        }
        for (int k = -1; k <= 5; k++) {
            due(where + " journal " + k, past.ask().journal(k), model.journal(k));
        }
        for (int k = -1; k <= 11; k++) {
            for (int what = -1; what <= 5; what++) {
                due(where + " record " + k + " " + what, past.ask().record(k, what), model.record(k, what));
            }
        }
        for (int m = -1; m <= model.n; m++) {
            for (int what = -1; what <= 3; what++) {
                due(where + " member " + m + " " + what, past.ask().member(m, what), model.member(m, what));
            }
        }
        due(where + " members", past.ask().members(), model.n);
        due(where + " audit", past.ask().audit(), model.audit());
        for (int m = -1; all && m <= model.n; m++) {
            for (int s = -1; s <= 24; s++) {
                for (int i = -1; i <= 11; i++) {
                    due(where + " chunk " + m + " " + s + " " + i, past.ask().chunk(m, s, i), model.chunk(m, s, i));
                }
            }
        }
        for (int b = -1; all && b <= 24 * (model.n - 1); b++) {
            due(where + " look " + b, past.ask().look(b), model.look(b));
            for (int i = -1; i <= 8; i++) {
                due(where + " word " + b + " " + i, wordOf(past.ask(), b, i), model.word(b, i));
            }
        }
    }

    public static void main(String[] args) {
        int[][] weights = {
            {30, 6, 1, 2, 6, 4, 4, 6, 2, 10, 10, 1},
            {40, 3, 1, 1, 1, 1, 0, 2, 1, 4, 4, 1},
            {20, 4, 2, 6, 12, 4, 12, 2, 1, 10, 6, 1},
            {10, 10, 2, 4, 8, 10, 3, 14, 10, 3, 3, 1},
        };
        for (int run = 0; run < RUNS && wrong < 20; run++) {
            Random random = new Random(run);
            int members = run % 8 < 4 ? run % 4 : random.nextInt();
            ParityRow row = new ParityRow(members);
            Past past = new Past(members);
            Model model = new Model(members);
            for (int k = 0; k < CALLS && wrong < 20; k++) {
                String where = "run " + run + " at " + k;
                call(random, weights[run / 4 % 4], row, past, model, where);
                if (k % 8 == 0) {
                    compare(past, model, k % 80 == 0, where);
                }
            }
        }
        System.out.println("LOST " + seen[0] + ", FAILED " + seen[1] + ", STATE " + seen[2] + ", DOWN " + seen[3]
                + ", others " + seen[4]);
        for (int k = 0; k < 5; k++) {
            due("how often each kind of answer was seen: more than 1000", seen[k] > 1000 ? 1 : 0, 1);
        }
        System.out.println(wrong == 0 ? "all answers are as due" : wrong + " answers are not as due");
        if (wrong != 0) {
            System.exit(1);
        }
    }
}
