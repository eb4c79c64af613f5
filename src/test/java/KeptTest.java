import java.util.Random;

// Without rot no word that was answered as written is ever gone: one disk may be lost, power may go at any write.
public final class KeptTest {
    private static int wrong = 0;
    private static int cuts = 0;

    private static void fault(String what) {
        wrong++;
        System.out.println(what);
    }

    /** Writes and keeps what is due; of a write that answered LOST each stripe may be old or new. */
    private static void write(ParityRow row, Random random, int[] first, String where) {
        int per = row.members() - 1;
        int block = random.nextInt(24 * per);
        int count = Math.min(1 + random.nextInt(2 * per), 24 * per - block);
        int v = random.nextInt();
        int answer = row.write(block, count, v);
        if (answer == count) {
            for (int k = 0; k < count; k++) {
                first[block + k] = v + 8 * k;
            }
        } else if (answer == ParityRow.LOST) {
            powerBack(row, random, where);
            int last = -1;
            boolean isNew = true;
            for (int k = 0; k < count; k++) {
                int stripe = (block + k) / per;
                boolean now = row.word(block + k, 0) == v + 8 * k;
                if (stripe == last && now != isNew) {
                    fault(where + ": a stripe is half new");
                }
                if (stripe != last && now && !isNew) {
                    fault(where + ": a later stripe is new, an earlier one is not");
                }
                last = stripe;
                isNew = now;
                first[block + k] = now ? v + 8 * k : first[block + k];
            }
        } else {
            fault(where + ": write answered " + answer);
        }
    }

    private static void powerBack(ParityRow row, Random random, String where) {
        cuts++;
        int answer = ParityRow.LOST;
        for (int k = 0; k < 5 && answer == ParityRow.LOST; k++) {
            answer = row.start(random.nextInt(6) - 1);
        }
        if (answer == ParityRow.LOST) {
            answer = row.start(ParityRow.NONE);
        }
        if (answer < 0) {
            fault(where + ": start answered " + answer);
        }
    }

    private static void check(ParityRow row, int[] first, String where) {
        for (int block = 0; block < first.length; block++) {
            for (int i = 0; i < 8; i++) {
                int got;
                try {
                    got = row.word(block, i);
                } catch (IllegalStateException e) {
                    fault(where + ": block " + block + " comes from nothing");
                    return;
                }
                if (got != first[block] + i) {
                    fault(where + ": word(" + block + ", " + i + ") is " + got + ", due is " + (first[block] + i));
                    return;
                }
            }
        }
    }

    private static void step(ParityRow row, Random random, int[] first, String where) {
        if (random.nextInt(3) == 0) {
            row.cut(random.nextInt(20), random.nextInt(9));
        }
        int answer = 0;
        switch (random.nextInt(8)) {
            case 0: answer = row.drain(1 + random.nextInt(4)); break;
            case 1: answer = row.lose(random.nextInt(row.members())); break;
            case 2: answer = row.spare(); break;
            case 3: answer = row.build(1 + random.nextInt(24)); break;
            case 4: answer = row.scrub(1 + random.nextInt(24)); break;
            default: write(row, random, first, where); break;
        }
        if (answer == ParityRow.LOST) {
            powerBack(row, random, where);
        }
    }

    public static void main(String[] args) {
        for (int run = 0; run < 200 && wrong < 20; run++) {
            Random random = new Random(1000 + run);
            ParityRow row = new ParityRow(run);
            int[] first = new int[24 * (row.members() - 1)];
            // At first every word is 0; writing all makes the words of a block follow one another.
            for (int block = 0; block < first.length; block++) {
                row.write(block, 1, block);
                first[block] = block;
            }
            for (int k = 0; k < 200 && wrong < 20; k++) {
                String where = "run " + run + " at " + k;
                step(row, random, first, where);
                check(row, first, where);
            }
            if (row.audit() != 0 || row.count(7) != 0 || row.count(8) != 0) {
                fault("run " + run + ": nothing rots, yet something was uneven, mended or a hole");
            }
        }
        if (cuts < 1000) {
            fault("power went too seldom: " + cuts);
        }
        System.out.println(wrong == 0 ? "all words are kept" : wrong + " faults");
        if (wrong != 0) {
            System.exit(1);
        }
    }
}
