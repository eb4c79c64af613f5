import java.util.ArrayList;
import java.util.Arrays;
import java.util.List;

// A refused call tells the first of its refusals in the order in which the document's call names them, and changes
// nothing that a later call shows: a row that refused a call answers ever after as one that never was asked.
public final class RefusalTest {
    private static final int NONE = ParityRow.NONE, DOWN = ParityRow.DOWN, UNKNOWN = ParityRow.UNKNOWN,
            OUTSIDE = ParityRow.OUTSIDE, STATE = ParityRow.STATE, FAILED = ParityRow.FAILED, LOST = ParityRow.LOST;
    private static final int MIN = Integer.MIN_VALUE, MAX = Integer.MAX_VALUE;
    private static final long BOUNDS = 1L << 40, ILLEGAL = 1L << 41, MACHINE = 1L << 42;

    /** So many answers of one object, beside the calls that made it what it is: no object gets more than 512 calls. */
    private static final int ASKED = 440;

    private static final int EMPTY = 0, ALL_ON = 1, ONE_LOST = 2, ONE_NEW = 3, GONE = 4, GONE_NEW = 5, KINDS = 6;
    private static final String[] KIND = {"empty", "all ON", "one LOST", "one NEW", "DOWN", "DOWN with one NEW"};

    private static int wrong = 0;
    private static int asked = 0;

    private interface Call {
        long on(ParityRow row);
    }

    private static void due(String what, long got, long want) {
        if (got != want) {
            wrong++;
            System.out.println(what + " answered " + got + ", due is " + want);
        }
    }

    private static long word(ParityRow row, int block, int i) {
        try {
            return row.word(block, i);
        } catch (IndexOutOfBoundsException e) {
            // ArrayIndexOutOfBoundsException is one too, but the machine's.
            return e.getClass() == IndexOutOfBoundsException.class ? BOUNDS : MACHINE;
        } catch (IllegalStateException e) {
            return ILLEGAL;
        }
    }

    /** Each kind has records, rot, a scrub that stands at 5 and a cut that is still to come, as far as it can have them. */
    private static ParityRow rowOf(int members, int kind) {
        ParityRow row = new ParityRow(members);
        if (kind == EMPTY) {
            return row;
        }
        int n = row.members();
        int lastStripe = 23 * (n - 1);
        row.write(0, 2 * (n - 1), 100);
        row.drain(1);
        row.write(n, n - 1, 200);
        row.scrub(5);
        row.rot(1, 7, 3, 16);
        // Two chunks of the last stripe, one of them the first datum's: a write of that datum alone fails.
        row.rot(row.place(lastStripe, 1), 23, 0, 1);
        row.rot(row.place(lastStripe, 2), 23, 0, 1);
        row.rot(row.place(lastStripe + 1, 1), 23, 0, 1);
        if (kind == ONE_LOST || kind == ONE_NEW || kind == GONE_NEW) {
            row.lose(2);
        }
        if (kind == ONE_NEW || kind == GONE_NEW) {
            row.spare();
            row.build(3);
        }
        row.write(0, 1, 300);
        row.write(3 * (n - 1), 2, 400);
        row.cut(1, 3);
        if (kind == GONE || kind == GONE_NEW) {
            due(KIND[kind] + ": the power goes", row.drain(32), LOST);
        }
        return row;
    }

    // ---- all that a row shows, and what may come before it is asked

    private static List<Call> questions(int n) {
        List<Call> all = new ArrayList<>();
        for (int what = 0; what < 13; what++) {
            int w = what;
            all.add(row -> row.count(w));
            all.add(row -> row.journal(w % 5));
            for (int k = 0; k < 11; k++) {
                int nth = k;
                all.add(row -> row.record(nth, w % 5));
            }
            for (int m = 0; m < n; m++) {
                int member = m;
                all.add(row -> row.member(member, w % 3));
            }
        }
        all.add(ParityRow::audit);
        all.add(ParityRow::members);
        for (int b = 0; b < 24 * (n - 1); b++) {
            int block = b;
            all.add(row -> row.look(block));
            all.add(row -> word(row, block, 0));
            all.add(row -> word(row, block, 7));
        }
        for (int m = 0; m < n; m++) {
            for (int s = 0; s < 24; s++) {
                for (int i = 0; i < 11; i++) {
                    int member = m;
                    int stripe = s;
                    int at = i;
                    all.add(row -> row.chunk(member, stripe, at));
                }
            }
        }
        return all;
    }

    /** Runs of later calls: they show the records, the cut, the tear, where scrubbing stands, and what is built. */
    private static List<List<Call>> laterCalls() {
        List<List<Call>> runs = new ArrayList<>();
        runs.add(List.of());
        runs.add(List.of(row -> row.drain(32), row -> row.start(NONE)));
        runs.add(List.of(row -> row.write(0, 1, 9), row -> row.write(0, 1, 8), row -> row.start(NONE),
                row -> row.write(0, 1, 7)));
        runs.add(List.of(row -> row.start(0), row -> row.start(1), row -> row.start(4), row -> row.drain(1)));
        List<Call> scrubbing = new ArrayList<>(List.of(row -> row.start(NONE), row -> row.cut(NONE, 0),
                row -> row.spare(), row -> row.build(24)));
        for (int s = 0; s < 24; s++) {
            int stripe = s;
            scrubbing.add(row -> row.rot(1, stripe, 1, 64));
        }
        scrubbing.add(row -> row.scrub(1));
        runs.add(scrubbing);
        runs.add(List.of(row -> row.build(2), row -> row.lose(0), row -> row.spare(), row -> row.build(1)));
        return runs;
    }

    /** A kind of row of one width, and what it answers in each run of later calls when nothing was refused before. */
    private static final class Scene {
        final int members, kind, n, blocks;
        final boolean down;
        final List<Call> questions;
        final List<List<Call>> later = laterCalls();
        final List<long[]> answers = new ArrayList<>();

        Scene(int members, int kind) {
            this.members = members;
            this.kind = kind;
            n = 3 + members;
            blocks = 24 * (n - 1);
            down = kind == GONE || kind == GONE_NEW;
            questions = questions(n);
            for (List<Call> run : later) {
                answers.add(answersOf(run, null, 0));
            }
        }

        /** Asked of as many equal rows as the questions need. */
        long[] answersOf(List<Call> run, Call refused, long refusal) {
            int size = questions.size();
            int rows = (size + ASKED - 1) / ASKED;
            long[] all = new long[rows * run.size() + size];
            int at = 0;
            for (int from = 0; from < size; from += ASKED) {
                ParityRow row = rowOf(members, kind);
                if (refused != null) {
                    due(this + ": the refusal", refused.on(row), refusal);
                }
                for (Call call : run) {
                    all[at++] = call.on(row);
                }
                for (int q = from; q < size && q < from + ASKED; q++) {
                    all[at++] = questions.get(q).on(row);
                }
            }
            return all;
        }

        void refused(long refusal, String what, Call call) {
            asked++;
            due(this + what, call.on(rowOf(members, kind)), refusal);
            for (int r = 0; r < later.size() && wrong < 20; r++) {
                long[] got = answersOf(later.get(r), call, refusal);
                long[] want = answers.get(r);
                for (int k = 0; k < want.length; k++) {
                    if (got[k] != want[k]) {
                        due(this + what + ", then run " + r + ", answer " + k, got[k], want[k]);
                        break;
                    }
                }
            }
        }

        @Override
        public String toString() {
            return n + " members, " + KIND[kind] + ": ";
        }
    }

    private static int[] ints(int... all) {
        return all;
    }

    // ---- the refusals of each call, in the order of the promises

    private static void place(Scene s) {
        for (int block : ints(MIN, -1, s.blocks, MAX)) {
            for (int what : ints(-1, 0, 2, 3)) {
                s.refused(UNKNOWN, "place(" + block + ", " + what + ")", row -> row.place(block, what));
            }
        }
        for (int what : ints(MIN, -1, 3, MAX)) {
            s.refused(OUTSIDE, "place(0, " + what + ")", row -> row.place(0, what));
            s.refused(OUTSIDE, "place(last, " + what + ")", row -> row.place(s.blocks - 1, what));
        }
    }

    private static void write(Scene s) {
        int most = 2 * (s.n - 1);
        for (int block : ints(MIN, -1, s.blocks, MAX)) {
            for (int count : ints(0, 1, most, most + 1)) {
                s.refused(s.down ? DOWN : UNKNOWN, "write(" + block + ", " + count + ")",
                        row -> row.write(block, count, 5));
            }
        }
        for (int count : ints(MIN, -1, 0, most + 1, MAX)) {
            // Of the last block the last one would be unknown, too: OUTSIDE is named before it.
            for (int block : ints(0, s.blocks - 1)) {
                s.refused(s.down ? DOWN : OUTSIDE, "write(" + block + ", " + count + ")",
                        row -> row.write(block, count, 5));
            }
        }
        s.refused(s.down ? DOWN : UNKNOWN, "write(last, 2)", row -> row.write(s.blocks - 1, 2, 5));
        s.refused(s.down ? DOWN : UNKNOWN, "write of the most, one too far",
                row -> row.write(s.blocks - most + 1, most, 5));
        if (s.down) {
            s.refused(DOWN, "write(0, 1)", row -> row.write(0, 1, 5));
        } else if (s.kind != EMPTY) {
            // All that the last stripe's parity could come from is rotten: FAILED, before anything is done; but what
            // is named before FAILED is told first.
            int block = s.blocks - s.n + 1;
            s.refused(FAILED, "write(" + block + ", 1)", row -> row.write(block, 1, 5));
            s.refused(UNKNOWN, "write(" + block + ", " + s.n + ")", row -> row.write(block, s.n, 5));
            s.refused(OUTSIDE, "write(" + block + ", 0)", row -> row.write(block, 0, 5));
        }
    }

    private static void lookAndWord(Scene s) {
        for (int block : ints(MIN, -1, s.blocks, MAX)) {
            s.refused(s.down ? DOWN : UNKNOWN, "look(" + block + ")", row -> row.look(block));
            for (int i : ints(-1, 0, 7, 8)) {
                s.refused(BOUNDS, "word(" + block + ", " + i + ")", row -> word(row, block, i));
            }
        }
        for (int i : ints(MIN, -1, 8, MAX)) {
            s.refused(BOUNDS, "word(0, " + i + ")", row -> word(row, 0, i));
            s.refused(BOUNDS, "word(last, " + i + ")", row -> word(row, s.blocks - 1, i));
        }
        if (s.down) {
            s.refused(DOWN, "look(0)", row -> row.look(0));
            s.refused(ILLEGAL, "word(0, 0)", row -> word(row, 0, 0));
            s.refused(ILLEGAL, "word(last, 7)", row -> word(row, s.blocks - 1, 7));
        } else if (s.kind != EMPTY) {
            int nothing = s.blocks - s.n + 1;
            s.refused(3, "look at nothing", row -> row.look(nothing));
            s.refused(ILLEGAL, "word of nothing", row -> word(row, nothing, 0));
            s.refused(BOUNDS, "word 8 of nothing", row -> word(row, nothing, 8));
        }
    }

    private static void drain(Scene s) {
        for (int n : ints(MIN, -1, 0, 33, MAX)) {
            s.refused(s.down ? DOWN : OUTSIDE, "drain(" + n + ")", row -> row.drain(n));
        }
        if (s.down) {
            s.refused(DOWN, "drain(1)", row -> row.drain(1));
        }
    }

    private static void loseAndSpare(Scene s) {
        boolean allOn = s.kind == EMPTY || s.kind == ALL_ON;
        for (int member : ints(MIN, -1, s.n, MAX)) {
            s.refused(s.down ? DOWN : UNKNOWN, "lose(" + member + ")", row -> row.lose(member));
        }
        for (int member = 0; member < s.n && (s.down || !allOn); member++) {
            int m = member;
            s.refused(s.down ? DOWN : STATE, "lose(" + m + ")", row -> row.lose(m));
        }
        if (s.kind != ONE_LOST) {
            s.refused(s.down ? DOWN : STATE, "spare()", ParityRow::spare);
        }
    }

    private static void buildAndScrub(Scene s) {
        boolean allOn = s.kind == EMPTY || s.kind == ALL_ON;
        for (int n : ints(MIN, -1, 0, 25, MAX)) {
            s.refused(s.down ? DOWN : OUTSIDE, "build(" + n + ")", row -> row.build(n));
            s.refused(s.down ? DOWN : OUTSIDE, "scrub(" + n + ")", row -> row.scrub(n));
        }
        for (int n : ints(1, 24)) {
            if (s.kind != ONE_NEW) {
                s.refused(s.down ? DOWN : STATE, "build(" + n + ")", row -> row.build(n));
            }
            if (s.down || !allOn) {
                s.refused(s.down ? DOWN : STATE, "scrub(" + n + ")", row -> row.scrub(n));
            }
        }
    }

    private static void rot(Scene s) {
        for (int bad : ints(MIN, -1, MAX)) {
            s.refused(UNKNOWN, "rot(" + bad + ", 0, 0)", row -> row.rot(bad, 0, 0, 1));
            s.refused(UNKNOWN, "rot(0, " + bad + ", 0)", row -> row.rot(0, bad, 0, 1));
            s.refused(UNKNOWN, "rot(0, 0, " + bad + ")", row -> row.rot(0, 0, bad, 1));
        }
        s.refused(UNKNOWN, "rot(n, 0, 0)", row -> row.rot(s.n, 0, 0, 1));
        s.refused(UNKNOWN, "rot(0, 24, 0)", row -> row.rot(0, 24, 0, 1));
        s.refused(UNKNOWN, "rot(0, 0, 8)", row -> row.rot(0, 0, 8, 1));
        s.refused(UNKNOWN, "rot(n - 1, 22, 8)", row -> row.rot(s.n - 1, 22, 8, 1));
        s.refused(UNKNOWN, "rot(n - 1, 23, 8)", row -> row.rot(s.n - 1, 23, 8, 1));
    }

    private static void cutAndStart(Scene s) {
        for (int n : ints(MIN, -2, 1001, MAX)) {
            for (int tear : ints(-1, 0, 8, 9)) {
                s.refused(s.down ? DOWN : OUTSIDE, "cut(" + n + ", " + tear + ")", row -> row.cut(n, tear));
            }
            s.refused(s.down ? OUTSIDE : STATE, "start(" + n + ")", row -> row.start(n));
        }
        for (int tear : ints(MIN, -1, 9, MAX)) {
            for (int n : ints(-1, 0, 1000)) {
                s.refused(s.down ? DOWN : OUTSIDE, "cut(" + n + ", " + tear + ")", row -> row.cut(n, tear));
            }
        }
        for (int n : ints(-1, 0, 1000)) {
            if (s.down) {
                s.refused(DOWN, "cut(" + n + ", 8)", row -> row.cut(n, 8));
            } else {
                s.refused(STATE, "start(" + n + ")", row -> row.start(n));
            }
        }
    }

    private static void chunkAndMember(Scene s) {
        for (int member : ints(MIN, -1, s.n, MAX)) {
            for (int what : ints(-1, 0, 2, 3, 10, 11)) {
                s.refused(UNKNOWN, "chunk(" + member + ", 0, " + what + ")", row -> row.chunk(member, 0, what));
                s.refused(UNKNOWN, "member(" + member + ", " + what + ")", row -> row.member(member, what));
            }
        }
        for (int stripe : ints(MIN, -1, 24, MAX)) {
            for (int i : ints(-1, 0, 10, 11)) {
                s.refused(UNKNOWN, "chunk(0, " + stripe + ", " + i + ")", row -> row.chunk(0, stripe, i));
            }
        }
        for (int m : ints(0, s.n - 1)) {
            for (int i : ints(MIN, -1, 11, MAX)) {
                s.refused(OUTSIDE, "chunk(" + m + ", 23, " + i + ")", row -> row.chunk(m, 23, i));
            }
            for (int what : ints(MIN, -1, 3, MAX)) {
                s.refused(OUTSIDE, "member(" + m + ", " + what + ")", row -> row.member(m, what));
            }
        }
    }

    private static void journalRecordAndCount(Scene s) {
        int records = rowOf(s.members, s.kind).journal(1);
        due(s + "has records", records > 0 ? 1 : 0, s.kind == EMPTY || s.down ? 0 : 1);
        for (int k : ints(MIN, -1, records, MAX)) {
            for (int what : ints(-1, 0, 4, 5)) {
                s.refused(UNKNOWN, "record(" + k + ", " + what + ")", row -> row.record(k, what));
            }
        }
        for (int what : ints(MIN, -1, 5, MAX)) {
            s.refused(OUTSIDE, "journal(" + what + ")", row -> row.journal(what));
            if (records > 0) {
                s.refused(OUTSIDE, "record(0, " + what + ")", row -> row.record(0, what));
                s.refused(OUTSIDE, "record(latest, " + what + ")", row -> row.record(records - 1, what));
            }
        }
        for (int what : ints(MIN, -1, 13, MAX)) {
            s.refused(OUTSIDE, "count(" + what + ")", row -> row.count(what));
        }
    }

    /** The runs of later calls are of use only if they tell apart what a refused call could have changed. */
    private static void laterCallsShow(Scene s) {
        if (s.kind != ALL_ON) {
            return;
        }
        shown(s, "a cut", row -> row.cut(2, 3));
        shown(s, "a tear", row -> row.cut(1, 4));
        shown(s, "no cut", row -> row.cut(NONE, 3));
        shown(s, "a scrub", row -> row.scrub(1));
        shown(s, "a write", row -> row.write(0, 1, 301));
        shown(s, "rot", row -> row.rot(0, 20, 0, 1));
    }

    private static void shown(Scene s, String what, Call call) {
        boolean told = false;
        for (int r = 0; r < s.later.size(); r++) {
            ParityRow first = rowOf(s.members, s.kind);
            long[] got = s.answersOf(s.later.get(r), call, call.on(first));
            told |= !Arrays.equals(got, s.answers.get(r));
        }
        due(s + what + " shows", told ? 1 : 0, 1);
    }

    public static void main(String[] args) {
        for (int members = 0; members < 4; members++) {
            for (int kind = 0; kind < KINDS; kind++) {
                Scene s = new Scene(members, kind);
                laterCallsShow(s);
                place(s);
                write(s);
                lookAndWord(s);
                drain(s);
                loseAndSpare(s);
                buildAndScrub(s);
                rot(s);
                cutAndStart(s);
                chunkAndMember(s);
                journalRecordAndCount(s);
            }
        }
        System.out.println(asked + " refusals: " + (wrong == 0 ? "all answers are as due" : wrong + " answers are not as due"));
        if (wrong != 0) {
            System.exit(1);
        }
    }
}
