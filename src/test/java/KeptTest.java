import java.util.ArrayList;
import java.util.List;
import java.util.Random;

// Without rot no word that was answered as written is ever gone: one disk may be lost, power may go at any write.
public final class KeptTest {
    /** What an object answers after so many calls is free: it is not asked more. */
    private static final int MOST_CALLS = 512, LONGEST_RUN = 300;

    private interface Call {
        int on(ParityRow row);
    }

    /** A row with all its calls so far, and one with the same past to be asked: a new one when its calls are used up. */
    private static final class Past {
        final int members;
        final ParityRow row;
        final List<Call> calls = new ArrayList<>();
        private ParityRow asked = null;
        private int used = 0;

        Past(int members) {
            this.members = members;
            row = new ParityRow(members);
        }

        int answer(Call call) {
            calls.add(call);
            asked = null;
            return call.on(row);
        }

        ParityRow ask() {
            if (asked == null || used == MOST_CALLS) {
                asked = new ParityRow(members);
                for (Call call : calls) {
                    call.on(asked);
                }
                used = calls.size();
            }
            used++;
            return asked;
        }
    }

    private static int wrong = 0;
    private static int cuts = 0;

    private static void fault(String what) {
        wrong++;
        System.out.println(what);
    }

    /** Writes and keeps what is due; of a write that answered LOST each stripe may be old or new. */
    private static void write(Past past, Random random, int[] first, String where) {
        int per = first.length / 24;
        int block = random.nextInt(24 * per);
        int count = Math.min(1 + random.nextInt(2 * per), 24 * per - block);
        int v = random.nextInt();
        int answer = past.answer(row -> row.write(block, count, v));
        if (answer == count) {
            for (int k = 0; k < count; k++) {
                first[block + k] = v + 8 * k;
            }
        } else if (answer == ParityRow.LOST) {
            powerBack(past, random, where);
            int last = -1;
            boolean isNew = true;
            for (int k = 0; k < count; k++) {
                int stripe = (block + k) / per;
                boolean now = past.ask().word(block + k, 0) == v + 8 * k;
                if (stripe == last && now != isNew) {
                    fault(where + ": a stripe is half new");
                }
                if (stripe != last && now && !isNew) {
                    fault(where + ": a later stripe is new, an earlier one is not");
                }
                last = stripe;
                isNew = now;
                first[block + k] = now ? v + 8 * k : first[block + k];
            }
        } else {
            fault(where + ": write answered " + answer);
        }
    }

    private static void powerBack(Past past, Random random, String where) {
        cuts++;
        int answer = ParityRow.LOST;
        for (int k = 0; k < 5 && answer == ParityRow.LOST; k++) {
            int n = random.nextInt(6) - 1;
            answer = past.answer(row -> row.start(n));
        }
        if (answer == ParityRow.LOST) {
            answer = past.answer(row -> row.start(ParityRow.NONE));
        }
        if (answer < 0) {
            fault(where + ": start answered " + answer);
        }
    }

    private static void check(Past past, int[] first, String where) {
        for (int block = 0; block < first.length; block++) {
            for (int i = 0; i < 8; i++) {
                int got;
                try {
                    got = past.ask().word(block, i);
                } catch (IllegalStateException e) {
                    fault(where + ": block " + block + " comes from nothing");
                    return;
                }
                if (got != first[block] + i) {
                    fault(where + ": word(" + block + ", " + i + ") is " + got + ", due is " + (first[block] + i));
                    return;
                }
            }
        }
    }

    private static void step(Past past, Random random, int[] first, String where) {
        int at = random.nextInt(20);
        int tear = random.nextInt(9);
        if (random.nextInt(3) == 0) {
            past.answer(row -> row.cut(at, tear));
        }
        int member = random.nextInt(first.length / 24 + 1);
        int many = 1 + random.nextInt(24);
        int answer = 0;
        switch (random.nextInt(8)) {
            case 0: answer = past.answer(row -> row.drain(1 + many % 4)); break;
            case 1: answer = past.answer(row -> row.lose(member)); break;
            case 2: answer = past.answer(ParityRow::spare); break;
            case 3: answer = past.answer(row -> row.build(many)); break;
            case 4: answer = past.answer(row -> row.scrub(many)); break;
            default: write(past, random, first, where); break;
        }
        if (answer == ParityRow.LOST) {
            powerBack(past, random, where);
        }
    }

    /** At first every word is 0; writing all makes the words of a block follow one another. */
    private static int[] writeAll(Past past, int blocks) {
        int[] first = new int[blocks];
        int most = blocks / 12;
        for (int block = 0; block < blocks; block++) {
            first[block] = 8 * block;
            if (block % most == 0) {
                int from = block;
                past.answer(row -> row.write(from, most, 8 * from));
            }
        }
        return first;
    }

    public static void main(String[] args) {
        for (int run = 0; run < 200 && wrong < 20; run++) {
            Random random = new Random(1000 + run);
            Past past = new Past(run);
            int[] first = writeAll(past, 24 * (2 + run % 4));
            for (int k = 0; past.calls.size() < LONGEST_RUN && wrong < 20; k++) {
                String where = "run " + run + " at " + k;
                step(past, random, first, where);
                check(past, first, where);
            }
            if (past.row.audit() != 0 || past.row.count(7) != 0 || past.row.count(8) != 0) {
                fault("run " + run + ": nothing rots, yet something was uneven, mended or a hole");
            }
        }
        if (cuts < 1000) {
            fault("power went too seldom: " + cuts);
        }
        System.out.println(wrong == 0 ? "all words are kept" : wrong + " faults");
        if (wrong != 0) {
            System.exit(1);
        }
    }
}
