// Each sentence of the document that names a boundary, by itself: the sentence stands above its test. The answers are
// worked out by hand from the sentence; no object gets more than the 512 calls that the document speaks of.
// What is refused, and that it changes nothing, is RefusalTest's; here the last value that is taken stands beside it.
public final class EdgeTest {
    private static final int NONE = ParityRow.NONE, DOWN = ParityRow.DOWN, UNKNOWN = ParityRow.UNKNOWN,
            OUTSIDE = ParityRow.OUTSIDE, STATE = ParityRow.STATE, FAILED = ParityRow.FAILED, LOST = ParityRow.LOST;
    private static final int MIN = Integer.MIN_VALUE, MAX = Integer.MAX_VALUE;
    private static final long BOUNDS = 1L << 40, ILLEGAL = 1L << 41, MACHINE = 1L << 42;
    private static final int CELLS = 1, MARKS = 2, READS = 3, RECORDS = 4, DRAINED = 5, AGAIN = 6, MENDED = 7, HOLES = 8;
    private static int wrong = 0;

    private static void due(String what, long got, long want) {
        if (got != want) {
            wrong++;
            System.out.println(what + " answered " + got + ", due is " + want);
        }
    }

    private static long word(ParityRow row, int block, int i) {
        try {
            return row.word(block, i);
        } catch (IndexOutOfBoundsException e) {
            // ArrayIndexOutOfBoundsException is one too, but the machine's.
            return e.getClass() == IndexOutOfBoundsException.class ? BOUNDS : MACHINE;
        } catch (IllegalStateException e) {
            return ILLEGAL;
        }
    }

    private static void dueWords(String what, ParityRow row, int block, int first) {
        for (int i = 0; i < 8; i++) {
            due(what + ": word(" + block + ", " + i + ")", word(row, block, i), first + i);
        }
    }

    private static void dueJournal(String what, ParityRow row, int free, int records, int next, int cell, int serial) {
        int[] all = {free, records, next, cell, serial};
        for (int k = 0; k < 5; k++) {
            due(what + ": journal(" + k + ")", row.journal(k), all[k]);
        }
    }

    /** In a chunk of 0: 3 in word 0 and -1 in word 1 leave the SUM right. */
    private static void rotUnseen(ParityRow row, int member, int stripe) {
        row.rot(member, stripe, 0, 3);
        row.rot(member, stripe, 1, -1);
    }

    /** Of an odd number: their product, wrapping, is 1; each turn doubles the bits that are right. */
    private static int inverse(int odd) {
        int y = odd;
        for (int k = 0; k < 5; k++) {
            y *= 2 - odd * y;
        }
        return y;
    }

    // ======== What it is

    // "An object is used for at most 512 calls after it has been made": the 512th is still as promised.
    private static void fiveHundredAndTwelveCalls() {
        for (int members = 0; members < 4; members++) {
            ParityRow row = new ParityRow(members);
            int most = 2 * (2 + members);
            for (int k = 1; k <= 509; k++) {
                due("512 calls: call " + k, row.write(1, most, k), most);
            }
            due("512 calls: three records each", row.count(RECORDS), 3 * 509);
            due("512 calls: the next serial", row.journal(2), 3 * 509 + 1);
            due("512 calls: the 512th", word(row, 1, 7), 509 + 7);
        }
    }

    // "THE ROW has n MEMBERS, 0 .. n - 1, 24 STRIPES; of each stripe each member has a CHUNK: eight WORDS": the first
    // and the last of each are taken, their neighbours are not.
    private static void sizes() {
        for (int members = 0; members < 4; members++) {
            int n = 3 + members;
            ParityRow row = new ParityRow(members);
            int[] m = {-1, 0, n - 1, n};
            int[] s = {-1, 0, 23, 24};
            int[] w = {-1, 0, 7, 8};
            for (int a = 0; a < 4; a++) {
                for (int b = 0; b < 4; b++) {
                    for (int c = 0; c < 4; c++) {
                        boolean in = a % 3 != 0 && b % 3 != 0 && c % 3 != 0;
                        String at = n + " members: (" + m[a] + ", " + s[b] + ", " + w[c] + ")";
                        due("12: rot" + at, row.rot(m[a], s[b], w[c], 9), in ? 9 : UNKNOWN);
                        due("12: rot" + at, row.rot(m[a], s[b], w[c], 1), in ? 8 : UNKNOWN);
                        due("15: chunk" + at, row.chunk(m[a], s[b], w[c]),
                                a % 3 == 0 || b % 3 == 0 ? UNKNOWN : c == 0 ? OUTSIDE : c == 3 ? 0 : 8);
                    }
                }
            }
            for (int a = 0; a < 4; a++) {
                due("16: member(" + m[a] + ", 0)", row.member(m[a], 0), a % 3 == 0 ? UNKNOWN : 0);
                due("8: lose(" + m[a] + ")", new ParityRow(members).lose(m[a]), a % 3 == 0 ? UNKNOWN : 1);
            }
        }
    }

    // "a SUM (of word i times 2 i + 1, wrapping)": of v, v + 1, .. v + 7 it is 64 v + 308.
    private static void sumWraps() {
        int[] first = {0, (1 << 25) - 5, (1 << 25) - 4, 1 << 25, 1 << 26, -4, -5, -(1 << 25) - 4, -(1 << 25) - 5, MIN, MAX};
        int[] sum = {308, MAX - 11, MIN + 52, MIN + 308, 308, 52, -12, MIN + 52, MAX - 11, 308, 244};
        for (int k = 0; k < first.length; k++) {
            ParityRow row = new ParityRow(0);
            row.write(0, 1, first[k]);
            row.drain(1);
            due("SUM of the words from " + first[k] + " on", row.chunk(0, 0, 8), sum[k]);
            due("SUM of the parity, the same words", row.chunk(2, 0, 8), sum[k]);
            due("THERE", row.chunk(0, 0, 10), 1);
            dueWords("words", row, 0, first[k]);
        }
    }

    // A SUM that is right by wrapping alone is right: MIN times 2 i + 1 is MIN, and MIN twice is 0.
    private static void wrongAndRightSums() {
        ParityRow row = new ParityRow(0);
        for (int i = 0; i < 8; i++) {
            due("rot to MIN", row.rot(0, 0, i, MIN), MIN);
            due("SUM wraps to 0 with an even number of them", row.chunk(0, 0, 10), i % 2);
        }
        int[] factor = {1, 3, 5, 7, 9, 11, 13, 15};
        for (int i = 0; i < 8; i++) {
            row = new ParityRow(0);
            row.rot(1, 1, i, 1);
            row.rot(1, 1, 0, i == 0 ? 1 : -factor[i]);
            due("word " + i + " has the factor " + factor[i], row.chunk(1, 1, 10), 1);
        }
    }

    // ======== 1 THE ROW

    // "Of stripe s member p = n - 1 - (s modulo n) has the PARITY, member (p + 1 + d) modulo n DATUM d": the last
    // stripe of a turn, the first of the next one, the last of all; the data go round behind member n - 1.
    private static void parityInTurn() {
        int[] lastParity = {0, 0, 1, 0};
        int[] lastMember = {2, 3, 0, 5};
        for (int members = 0; members < 4; members++) {
            ParityRow row = new ParityRow(members);
            int n = 3 + members;
            int d = n - 1;
            String what = "3: " + n + " members, ";
            due(what + "stripe 0", row.place(0, 2), n - 1);
            due(what + "datum 0 of stripe 0", row.place(0, 1), 0);
            due(what + "last datum of stripe 0", row.place(d - 1, 1), n - 2);
            due(what + "its stripe", row.place(d - 1, 0), 0);
            due(what + "stripe 1", row.place(d, 0), 1);
            due(what + "parity of stripe 1", row.place(d, 2), n - 2);
            due(what + "datum 0 of stripe 1", row.place(d, 1), n - 1);
            due(what + "datum 1 of stripe 1", row.place(d + 1, 1), 0);
            due(what + "parity of stripe n - 1", row.place(d * (n - 1), 2), 0);
            due(what + "last datum of stripe n - 1", row.place(d * n - 1, 1), n - 1);
            due(what + "parity of stripe n", row.place(d * n, 2), n - 1);
            due(what + "last block", row.place(24 * d - 1, 0), 23);
            due(what + "member of the last block", row.place(24 * d - 1, 1), lastMember[members]);
            due(what + "parity of the last block", row.place(24 * d - 1, 2), lastParity[members]);
            due(what + "behind the last block", row.place(24 * d, 0), UNKNOWN);
            due(what + "what 2 is the last", row.place(24 * d - 1, 3), OUTSIDE);
            due(what + "the last block is written", row.write(24 * d - 1, 1, 70), 1);
            row.drain(1);
            due(what + "it is there", row.chunk(lastMember[members], 23, 7), 77);
            due(what + "its parity too", row.chunk(lastParity[members], 23, 7), 77);
        }
    }

    // "At first all is 0, nothing torn."
    private static void atFirst() {
        for (int members = 0; members < 4; members++) {
            for (int m = 0; m < 3 + members; m++) {
                ParityRow row = new ParityRow(members);
                for (int s = 0; s < 24; s++) {
                    for (int i = 0; i <= 10; i++) {
                        due("at first: chunk(" + m + ", " + s + ", " + i + ")", row.chunk(m, s, i), i == 10 ? 1 : 0);
                    }
                }
                due("at first: ON", row.member(m, 0), 0);
                due("at first: BUILT", row.member(m, 1), 24);
                due("at first: written", row.member(m, 2), 0);
            }
            ParityRow row = new ParityRow(members);
            dueJournal("at first", row, 32, 0, 1, 0, 1);
            for (int k = 0; k <= 12; k++) {
                due("at first: count(" + k + ")", row.count(k), 0);
            }
            due("at first: no record", row.record(0, 0), UNKNOWN);
            due("at first: audit", row.audit(), 0);
            int last = 24 * (2 + members) - 1;
            due("at first: look", row.look(last), 0);
            due("at first: word", word(row, last, 7), 0);
        }
    }

    // "NEW: then it is ON for stripes below its BUILT, LOST for the others." With 3 members member 2 has the parity of
    // stripes 0, 3, 6, .. 21, datum 0 of stripes 1, 4, .. and datum 1 of stripes 2, 5, ..
    private static void onBelowBuilt() {
        for (int built = 0; built <= 23; built++) {
            ParityRow row = new ParityRow(0);
            row.lose(2);
            row.spare();
            if (built > 0) {
                due("BUILT " + built + ": left", row.build(built), 24 - built);
            }
            due("BUILT " + built, row.member(2, 1), built);
            due("BUILT " + built + ": NEW", row.member(2, 0), 2);
            for (int s = 0; s < 24; s++) {
                due("BUILT " + built + ": THERE " + s, row.chunk(2, s, 10), s < built ? 1 : 0);
                due("BUILT " + built + ": look", row.look(s % 3 == 1 ? 2 * s : 2 * s + 1),
                        s % 3 == 0 || s < built ? 0 : 2);
                int before = row.member(2, 2);
                row.write(2 * s, 1, 5);
                boolean has = s % 3 != 0 || s < built;
                due("BUILT " + built + ": parity of stripe " + s, row.record(0, 2), has ? 1 : 0);
                row.drain(1);
                due("BUILT " + built + ": written to it, stripe " + s, row.member(2, 2) - before,
                        s % 3 != 2 && s < built ? 1 : 0);
            }
        }
    }

    // "A chunk is THERE, if its member is ON (for its stripe), it is not TORN, and its SUM is right": each alone.
    private static void there() {
        ParityRow row = new ParityRow(0);
        row.rot(1, 5, 7, MIN);
        due("THERE: SUM is wrong", row.chunk(1, 5, 10), 0);
        due("THERE: not TORN", row.chunk(1, 5, 9), 0);
        row.rot(1, 5, 7, MIN);
        due("THERE: SUM is right again", row.chunk(1, 5, 10), 1);
        row.write(0, 1, 5);
        row.cut(0, 0);
        row.drain(1);
        due("THERE: TORN alone", row.chunk(0, 0, 10), 0);
        due("THERE: no new word", row.chunk(0, 0, 0), 0);
        due("THERE: SUM is right", row.chunk(0, 0, 8), 0);
        due("THERE: TORN", row.chunk(0, 0, 9), 1);
        row.start(NONE);
        due("THERE: written", row.chunk(0, 0, 10), 1);
        row.lose(0);
        due("THERE: not ON alone", row.chunk(0, 0, 10), 0);
        due("THERE: nor the last stripe", row.chunk(0, 23, 10), 0);
        due("THERE: not TORN", row.chunk(0, 0, 9), 0);
        due("THERE: the others are", row.chunk(1, 0, 10), 1);
    }

    // "of a member's chunk so many of its words and SUM (in this order) are the new ones, and it is TORN": 0 none, 8 all
    // words, never the SUM; "tear (0 .. 8)".
    private static void tearOf() {
        due("13: tear -1", new ParityRow(0).cut(0, -1), OUTSIDE);
        due("13: tear 9", new ParityRow(0).cut(0, 9), OUTSIDE);
        for (int tear = 0; tear <= 8; tear++) {
            ParityRow row = new ParityRow(3);
            row.write(0, 5, 1000);
            row.drain(1);
            row.write(0, 5, 2000);
            due("13: tear " + tear, row.cut(5, tear), 1);
            due("13: power goes at the parity", row.drain(1), LOST);
            for (int i = 0; i < 8; i++) {
                int before = 1000 + i ^ 1008 + i ^ 1016 + i ^ 1024 + i ^ 1032 + i;
                int after = 2000 + i ^ 2008 + i ^ 2016 + i ^ 2024 + i ^ 2032 + i;
                due("13: tear " + tear + ", word " + i, row.chunk(5, 0, i), i < tear ? after : before);
            }
            due("13: TORN", row.chunk(5, 0, 9), 1);
            due("13: not THERE", row.chunk(5, 0, 10), 0);
            due("13: written, too", row.member(5, 2), 2);
            due("13: the last datum is whole", row.chunk(4, 0, 10), 1);
        }
        ParityRow row = new ParityRow(0);
        row.write(0, 1, 7);
        row.drain(1);
        int sum = row.chunk(0, 0, 8);
        row.write(0, 1, 8);
        row.cut(0, 8);
        row.drain(1);
        due("13: all words of tear 8", row.chunk(0, 0, 7), 15);
        due("13: but not the SUM", row.chunk(0, 0, 8), sum);
    }

    // "Then all is DOWN, the call answers LOST, and what is only in memory is gone."; "(When DOWN 0, 1, 2 are 32, 0, 0.)"
    private static void powerGoes() {
        ParityRow row = new ParityRow(0);
        row.write(0, 4, 1);
        row.cut(2, 0);
        dueJournal("17: before", row, 22, 2, 3, 0, 1);
        due("7: at the third chunk", row.drain(2), LOST);
        dueJournal("17: down", row, 32, 0, 0, 0, 1);
        due("18: no record is known", row.record(0, 0), UNKNOWN);
        due("5: down", row.look(0), DOWN);
        due("6: down", word(row, 0, 0), ILLEGAL);
        due("19: the write at which power went is counted", row.count(0), 13);
        due("16: to its member, too", row.member(2, 2), 1);
        due("14: it comes back", row.start(NONE), 2);
        dueJournal("17: after", row, 32, 0, 3, 10, 3);
        row.write(0, 1, 1);
        row.drain(1);
        row.write(0, 1, 1);
        row.cut(2, 0);
        due("7: at the MARK", row.drain(1), LOST);
        dueJournal("17: the MARK stays what it was", row, 32, 0, 0, 14, 4);
        due("19: it is counted", row.count(MARKS), 3);
    }

    // ======== 2 THE JOURNAL

    // "THE JOURNAL has 32 CELLS in a ring": to the last cell, one cell less than needed, and a record that goes round.
    private static void ringOfCells() {
        ParityRow row = new ParityRow(3);
        for (int k = 1; k <= 4; k++) {
            row.write(5 * k, 5, k);
            dueJournal("2: " + k + " of 8 cells", row, 32 - 8 * k, k, k + 1, 0, 1);
        }
        due("2: full without a drain", row.count(DRAINED), 0);
        due("2: all drained", row.drain(4), 0);
        dueJournal("2: cell 32 is cell 0", row, 32, 0, 5, 0, 5);

        row = new ParityRow(1);
        for (int k = 0; k < 5; k++) {
            row.write(3 * k, 3, 100 * k);
        }
        dueJournal("2: two cells are free", row, 2, 5, 6, 0, 1);
        row.write(15, 3, 500);
        dueJournal("2: six are needed: one record gone, two cells left", row, 2, 5, 7, 6, 2);
        due("2: four left", row.drain(1), 4);
        due("2: one left", row.drain(3), 1);
        dueJournal("2: from cell 30 on", row, 26, 1, 7, 30, 6);
        due("5: the record goes round", row.look(17), 1);
        dueWords("2: the record goes round", row, 17, 516);
        row.cut(0, 5);
        row.drain(1);
        due("14: it counted", row.start(NONE), 1);
        dueJournal("2: behind it", row, 32, 0, 7, 4, 7);
        dueWords("14: it was done again", row, 17, 516);
    }

    // "3 the cell of the MARK (0 .. 31)": the last cell, and a record that begins in it.
    private static void lastCell() {
        ParityRow row = new ParityRow(0);
        for (int k = 0; k < 7; k++) {
            row.write(2 * k, k < 3 ? 2 : 1, 10 * k);
        }
        dueJournal("17: three of 5 cells, four of 4", row, 1, 7, 8, 0, 1);
        row.drain(32);
        dueJournal("17: the last cell", row, 32, 0, 8, 31, 8);
        row.write(20, 1, 90);
        row.cut(0, 4);
        row.drain(1);
        dueJournal("17: down", row, 32, 0, 0, 31, 8);
        due("14: it counted", row.start(NONE), 1);
        dueJournal("17: four cells on", row, 32, 0, 9, 3, 9);
        dueWords("14: done again", row, 20, 90);
    }

    // A record of as many cells as are free needs no drain; of one more it does.
    private static void cellsThatAreFree() {
        for (int more = 0; more < 2; more++) {
            ParityRow row = new ParityRow(3);
            for (int k = 0; k < 3; k++) {
                row.write(5 * k, 5, 1);
            }
            row.write(15, 1, 1);
            dueJournal("4: four cells are free", row, 4, 4, 5, 0, 1);
            row.write(20, 1 + more, 1);
            due("4: cells", row.count(CELLS), 24 + 4 + 4 + more);
            due("4: drained", row.count(DRAINED), more);
            due("4: free", row.journal(0), more == 0 ? 0 : 7);
        }
    }

    // "as long as its cells are not free: the oldest record is DRAINED": as many as it takes, and no more.
    private static void drainedAsLongAs() {
        for (int small = 8; small <= 10; small++) {
            ParityRow row = new ParityRow(3);
            row.lose(5);
            for (int k = 0; k < small; k++) {
                due("4: way 1", row.write(k % 2 == 0 ? 0 : 30, 1, k), 1);
            }
            due("4: records of three cells", row.journal(0), 32 - 3 * small);
            due("4: none drained yet", row.count(DRAINED), 0);
            row.write(5, 5, 9);
            due("4: eight cells are needed, drained", row.count(DRAINED), small - 8);
            due("4: none is left free", row.journal(0), 0);
            due("4: records", row.journal(1), 9);
            due("18: the oldest", row.record(0, 3), small - 7);
            due("18: the latest", row.record(8, 3), small + 1);
            due("18: behind it", row.record(9, 3), UNKNOWN);
        }
    }

    // "A RECORD: a cell, one for each datum that it has (in order), one for the PARITY if it has that, and a last cell"
    private static void cellsOfARecord() {
        for (int members = 0; members < 4; members++) {
            int n = 3 + members;
            for (int d = 1; d < n; d++) {
                ParityRow row = new ParityRow(members);
                row.write(0, d, 1);
                due("2: with a parity", row.journal(0), 32 - (d + 3));
                due("18: it has a parity", row.record(0, 2), 1);
                due("18: its data as bits", row.record(0, 1), (1 << d) - 1);
                row = new ParityRow(members);
                row.lose(n - 1);
                row.write(0, d, 1);
                due("2: all data have a parity always", row.record(0, 2), d == n - 1 ? 1 : 0);
                due("2: cells", row.journal(0), 32 - (d == n - 1 ? d + 3 : d + 2));
                row = new ParityRow(members);
                row.write(n - 1 - d, d, 1);
                due("18: the last data as bits", row.record(0, 1), (1 << d) - 1 << n - 1 - d);
            }
        }
    }

    // "It COUNTS, if all its cells were written whole": power at each of its cells, the first and the last, and behind.
    // The journal was full once before, so that older whole cells lie under the new ones.
    private static void countsIfWhole() {
        for (int at = 0; at <= 8; at++) {
            ParityRow row = new ParityRow(3);
            for (int k = 0; k < 5; k++) {
                row.write(5 * k, 5, 100 * k);
            }
            row.drain(32);
            dueJournal("2: round once", row, 32, 0, 6, 8, 6);
            row.cut(at, 8);
            due("4: power at cell " + at, row.write(0, 5, 900), at < 8 ? LOST : 5);
            due("19: cells", row.count(CELLS), 40 + (at < 8 ? at + 1 : 8));
            due("19: records", row.count(RECORDS), at < 8 ? 5 : 6);
            due("19: records of WAY 0", row.count(9), at < 8 ? 5 : 6);
            if (at == 8) {
                due("7: power at the next write", row.drain(1), LOST);
            }
            due("14: counted", row.start(NONE), at < 8 ? 0 : 1);
            dueJournal("14: then", row, 32, 0, at < 8 ? 6 : 7, at < 8 ? 8 : 16, at < 8 ? 6 : 7);
            dueWords("14: words", row, 0, at < 8 ? 0 : 900);
        }
    }

    // The same SERIAL once more, in fewer cells, over a record that never counted.
    private static void serialOnceMore() {
        ParityRow row = new ParityRow(3);
        row.cut(7, 0);
        due("4: at the last cell", row.write(0, 5, 100), LOST);
        due("14: none", row.start(NONE), 0);
        due("4: a smaller one", row.write(5, 1, 50), 1);
        due("18: its serial", row.record(0, 3), 1);
        row.cut(0, 0);
        due("4: power at the first cell behind it", row.write(5, 1, 60), LOST);
        due("14: one alone", row.start(NONE), 1);
        dueJournal("14: then", row, 32, 0, 2, 4, 2);
        dueWords("14: its words", row, 5, 50);
        due("14: not the first one's", word(row, 0, 7), 0);
    }

    // "NEWEST of a datum or a parity: what the latest record has that has it; else what its chunk has, if it is THERE;
    // else it is none."
    private static void newest() {
        ParityRow row = new ParityRow(1);
        row.write(0, 1, 10);
        row.write(0, 1, 20);
        dueWords("NEWEST: the latest", row, 0, 20);
        row.write(1, 1, 30);
        row.write(3, 1, 40);
        dueWords("NEWEST: the latest that has it", row, 0, 20);
        row.rot(0, 0, 0, 1);
        due("NEWEST: of the journal, though its chunk is not THERE", row.look(0), 1);
        due("NEWEST: of its chunk, no record has it", row.look(2), 0);
        row.drain(1);
        dueWords("NEWEST: of a record still", row, 0, 20);
        due("NEWEST: the older one is drained", row.chunk(0, 0, 0), 10);
        row.drain(1);
        due("NEWEST: of its chunk", row.look(0), 0);
        row.rot(0, 0, 0, 1);
        due("NEWEST: none, by the others", row.look(0), 2);
        row.rot(2, 0, 0, 1);
        due("NEWEST: none, and another is not THERE", row.look(0), 3);
        due("NEWEST: that one, too", row.look(2), 3);
        due("NEWEST: of the journal", row.look(1), 1);
    }

    // "what needs fewer NEWEST ones (2, if they are as many)": WAY 2 needs one more than are written, WAY 3 the others.
    private static void fewerNewestOnes() {
        int[] members = {0, 1, 1, 2, 2, 2, 3, 3, 3, 3};
        int[] written = {1, 1, 2, 1, 2, 3, 1, 2, 3, 4};
        int[] way = {3, 2, 3, 2, 3, 3, 2, 2, 3, 3};
        int[] reads = {1, 2, 1, 2, 2, 1, 2, 3, 2, 1};
        for (int k = 0; k < way.length; k++) {
            ParityRow row = new ParityRow(members[k]);
            row.write(0, written[k], 6);
            String what = "4: " + written[k] + " of " + (members[k] + 2) + " data: ";
            due(what + "way", row.record(0, 4), way[k]);
            due(what + "reads", row.count(READS), reads[k]);
            for (int w = 0; w < 4; w++) {
                due(what + "records of way " + w, row.count(9 + w), w == way[k] ? 1 : 0);
            }
        }
    }

    // "Of the WAY that is taken each NEWEST one that comes from a chunk is a READ": all of them, some, none.
    private static void readsOfTheWay() {
        ParityRow row = new ParityRow(3);
        row.write(0, 2, 1);
        due("4: way 2 of chunks alone", row.count(READS), 3);
        row.write(1, 2, 1);
        due("4: way 2, datum 2 of a chunk", row.count(READS), 4);
        row.write(0, 2, 1);
        due("4: way 2 of the journal alone", row.count(READS), 4);
        due("18: way 2", row.record(2, 4), 2);
        row.write(2, 3, 1);
        due("4: way 3 of the journal alone", row.count(READS), 4);
        due("18: way 3", row.record(3, 4), 3);
        row.drain(32);
        row.write(2, 3, 1);
        due("4: way 3 of chunks alone", row.count(READS), 6);
        row.write(0, 5, 1);
        due("4: way 0", row.count(READS), 6);
        due("20: even", row.audit(), 0);
    }

    // "if one of these is none, the other one; if there, too: the write FAILED." With 4 members: one of three data as
    // many (2), two of three fewer by WAY 3.
    private static void otherWay() {
        // Which of data 0, 1, 2 and the parity (3) rot, how many are written, the WAY that is due.
        int[][] rows = {{8, 1, 3}, {1, 1, 3}, {9, 1, 3}, {2, 1, 2}, {4, 1, 2}, {6, 1, 2}, {3, 1, FAILED}, {10, 1, FAILED},
            {12, 1, FAILED}, {15, 1, FAILED}, {4, 2, 2}, {8, 2, 3}, {3, 2, 3}, {11, 2, 3}, {12, 2, FAILED},
            {5, 2, FAILED}, {6, 2, FAILED}, {15, 3, 0}};
        for (int[] r : rows) {
            ParityRow row = new ParityRow(1);
            row.write(0, 3, 1000);
            row.drain(1);
            for (int part = 0; part < 4; part++) {
                if ((r[0] >> part & 1) == 1) {
                    row.rot(part, 0, 2, 4);
                }
            }
            String what = "4: rotten " + r[0] + ", " + r[1] + " written: ";
            due(what, row.write(0, r[1], 50), r[2] == FAILED ? FAILED : r[1]);
            due(what + "way", row.record(0, 4), r[2] == FAILED ? UNKNOWN : r[2]);
            due(what + "reads", row.count(READS), r[2] == 2 ? r[1] + 1 : r[2] == 3 ? 3 - r[1] : 0);
            due(what + "cells", row.count(CELLS), r[2] == FAILED ? 6 : 6 + r[1] + 3);
        }
    }

    // "1 the parity's member is not ON (for this stripe): none": nothing is needed; but "0 all data" comes first.
    private static void waysZeroAndOne() {
        ParityRow row = new ParityRow(1);
        row.lose(3);
        for (int m = 0; m < 3; m++) {
            row.rot(m, 0, 0, 1);
        }
        due("4: all others are rotten", row.write(0, 2, 5), 2);
        due("4: way 1", row.record(0, 4), 1);
        due("4: no parity", row.record(0, 2), 0);
        due("4: all data", row.write(0, 3, 6), 3);
        due("4: way 0", row.record(1, 4), 0);
        due("4: a parity", row.record(1, 2), 1);
        due("4: no reads", row.count(READS), 0);
        row.drain(2);
        due("DRAINED: not to a member that is LOST", row.member(3, 2), 0);
        due("DRAINED: two data, then three", row.count(0), 4 + 6 + 2 + 1 + 3 + 1);
        dueWords("DRAINED", row, 2, 22);
    }

    // "FAILED (data of stripes before stay written)": in the first, the second and the third stripe of a write.
    private static void failedInAStripe() {
        for (int failing = 0; failing < 3; failing++) {
            ParityRow row = new ParityRow(1);
            // Stripe 2's data are written from datum 0 on, one of three; stripe 0's last one alone.
            row.rot(row.place(3 * failing, 2), failing, 0, 1);
            row.rot(row.place(3 * failing + 1, 1), failing, 0, 1);
            row.rot(row.place(3 * failing + 2, 1), failing, 0, 1);
            row.rot(row.place(3 * failing, 1), failing, 0, 1);
            int got = row.write(2, 5, 100);
            // All data of stripe 1 are written: nothing can fail there.
            due("4: failing in stripe " + failing, got, failing == 1 ? 5 : FAILED);
            due("4: records", row.journal(1), failing == 0 ? 0 : failing == 1 ? 3 : 2);
            due("4: the first", row.look(2), failing == 0 ? 3 : 1);
            due("4: the last of stripe 1", row.look(5), failing == 0 ? 0 : 1);
            due("4: of stripe 2", row.look(6), failing == 0 ? 0 : failing == 1 ? 1 : 3);
        }
    }

    // FAILED is told before room is made: nothing is drained for a record that is none.
    private static void failedDrainsNothing() {
        ParityRow row = new ParityRow(3);
        for (int k = 0; k < 4; k++) {
            row.write(5 * k, 5, 1);
        }
        row.rot(row.place(25, 2), 5, 0, 1);
        row.rot(row.place(26, 1), 5, 0, 1);
        row.cut(0, 0);
        due("4: the power would go at once", row.write(25, 1, 1), FAILED);
        dueJournal("4: full still", row, 0, 4, 5, 0, 1);
        due("4: no write", row.count(0), 32);
        due("4: the power goes at a write alone", row.write(0, 1, 1), LOST);
    }

    // "DRAINED is the oldest record: its data in order, then its parity, .. then the MARK": power at each of these.
    private static void drainedInOrder() {
        for (int at = 0; at <= 6; at++) {
            ParityRow row = new ParityRow(3);
            row.write(5, 5, 100);
            row.write(5, 5, 200);
            row.cut(at, 8);
            due("7: power at write " + at, row.drain(1), at <= 6 ? LOST : 1);
            // Stripe 1: datum 0 is member 5's, datum 1 member 0's, .. datum 4 member 3's, the parity member 4's.
            for (int part = 0; part < 6; part++) {
                int m = part == 0 ? 5 : part - 1;
                due("7: part " + part, row.member(m, 2), part <= at ? 1 : 0);
                due("7: TORN part " + part, row.chunk(m, 1, 9), part == at ? 1 : 0);
            }
            due("7: MARKS", row.count(MARKS), at == 6 ? 1 : 0);
            due("7: DRAINED", row.count(DRAINED), 0);
            due("17: the MARK's serial", row.journal(4), 1);
            due("14: both", row.start(NONE), 2);
            dueWords("14: the later one in the end", row, 9, 232);
            due("19: done again", row.count(AGAIN), 2);
            due("20: even", row.audit(), 0);
        }
    }

    // ======== 3 BUILDING UP, SCRUBBING

    // "with 24 the MARK is written, and the member is ON": not with 23.
    private static void builtWithTwentyFour() {
        ParityRow row = new ParityRow(2);
        row.lose(4);
        row.spare();
        due("10: 23 of them", row.build(23), 1);
        due("10: still NEW", row.member(4, 0), 2);
        due("16: BUILT", row.member(4, 1), 23);
        due("10: no MARK", row.count(MARKS), 0);
        due("19: reads", row.count(READS), 23 * 4);
        due("8: still not ON", row.lose(0), STATE);
        due("11: still not ON", row.scrub(1), STATE);
        due("9: not LOST", row.spare(), STATE);
        due("10: more than are left", row.build(24), 0);
        due("10: ON", row.member(4, 0), 0);
        due("16: BUILT", row.member(4, 1), 24);
        due("10: one MARK", row.count(MARKS), 1);
        due("10: 24 chunks", row.member(4, 2), 24);
        due("17: where it was", row.journal(3) + row.journal(4), 0 + 1);
        due("10: none is NEW", row.build(24), STATE);
        due("11: all are ON", row.scrub(24), 0);
        due("8: another one", row.lose(0), 1);
    }

    // "So many stripes (1 .. 24) are BUILT UP, or all that are left: how many are left."
    private static void buildBounds() {
        for (int n : new int[] {0, 1, 24, 25}) {
            ParityRow row = new ParityRow(0);
            row.lose(0);
            row.spare();
            due("10: build(" + n + ")", row.build(n), n == 0 || n == 25 ? OUTSIDE : 24 - n);
        }
        ParityRow row = new ParityRow(0);
        row.lose(0);
        row.spare();
        for (int k = 1; k <= 24; k++) {
            due("10: one by one", row.build(1), 24 - k);
        }
        row.lose(2);
        row.spare();
        row.build(20);
        due("10: as many as are left", row.build(4), 0);
    }

    // "if records have that stripe, the oldest ones are DRAINED up to the last that has it": none, the only one, all.
    private static void buildDrains() {
        ParityRow row = new ParityRow(0);
        row.lose(0);
        row.write(2, 1, 10);
        row.write(46, 1, 20);
        row.write(4, 1, 30);
        row.write(2, 1, 40);
        row.spare();
        row.build(1);
        due("10: no record has stripe 0", row.journal(1), 4);
        row.build(1);
        due("10: all, the last has stripe 1", row.journal(1), 0);
        due("10: stripe 1", row.chunk(0, 1, 10), 1);
        dueWords("10: block 2", row, 2, 40);
        row.write(46, 1, 50);
        row.write(0, 1, 60);
        row.build(21);
        due("10: none of stripe 2 to 22", row.journal(1), 2);
        due("10: the last one", row.build(1), 0);
        due("10: the oldest alone", row.journal(1), 1);
        due("10: it has stripe 0", row.record(0, 0), 0);
        dueWords("10: block 46", row, 46, 50);
        due("20: even", row.audit(), 0);
    }

    // Power at each write of building up a stripe that a record has: its datum and its parity drained, the MARK, the
    // chunk; with 3 members stripe 0's datum 0 is member 0's, the NEW one's.
    private static void buildLosesPower() {
        for (int at = 0; at <= 4; at++) {
            ParityRow row = new ParityRow(0);
            row.lose(0);
            row.write(0, 2, 60);
            row.spare();
            row.cut(at, 8);
            due("10: power at write " + at, row.build(1), at <= 3 ? LOST : 23);
            due("19: DRAINED", row.count(DRAINED), at <= 2 ? 0 : 1);
            due("19: reads", row.count(READS), at <= 2 ? 0 : 2);
            due("16: written to it", row.member(0, 2), at <= 2 ? 0 : 1);
            due("16: BUILT", row.member(0, 1), at <= 3 ? 0 : 1);
            due("15: TORN", row.chunk(0, 0, 9), at == 3 ? 1 : 0);
            due("14: counted", row.start(NONE), at <= 2 ? 1 : at == 3 ? 0 : STATE);
            row.cut(NONE, 0);
            dueWords("10: there, by the others or its member", row, 0, 60);
            due("10: built in the end", row.build(24), 0);
            dueWords("10: of its member", row, 0, 60);
        }
    }

    // "else it is a HOLE: TORN, without a write": all 24, the last among them; then there is the MARK alone.
    private static void holesOnly() {
        ParityRow row = new ParityRow(0);
        row.lose(1);
        row.spare();
        for (int s = 0; s < 24; s++) {
            row.rot(s % 2 == 0 ? 0 : 2, s, 7, 1);
        }
        due("10: all built", row.build(24), 0);
        due("19: HOLES", row.count(HOLES), 24);
        due("19: the MARK alone", row.count(0), 1);
        due("19: MARKS", row.count(MARKS), 1);
        due("19: no reads", row.count(READS), 0);
        due("16: none written", row.member(1, 2), 0);
        due("16: ON", row.member(1, 0), 0);
        for (int s = 0; s < 24; s++) {
            due("10: TORN", row.chunk(1, s, 9), 1);
            due("10: not THERE", row.chunk(1, s, 10), 0);
        }
        due("5: nothing", row.look(1), 3);
        due("11: two are not THERE", row.scrub(24), 0);
        row.rot(2, 23, 7, 1);
        due("11: one is not THERE", row.scrub(24), 1);
        due("15: the last one is THERE", row.chunk(1, 23, 10), 1);
    }

    // A hole is there only if another chunk is not THERE: one stripe of holes between stripes that are built.
    private static void holeBetween() {
        ParityRow row = new ParityRow(3);
        row.lose(2);
        row.spare();
        row.rot(5, 1, 0, 1);
        row.build(3);
        due("19: HOLES", row.count(HOLES), 1);
        due("19: writes", row.count(0), 2);
        due("19: reads", row.count(READS), 2 * 5);
        due("15: before", row.chunk(2, 0, 10), 1);
        due("15: the hole", row.chunk(2, 1, 10), 0);
        due("15: behind", row.chunk(2, 2, 10), 1);
    }

    // "SCRUBBING a stripe (the next one, in a ring from 0 on": behind 23 comes 0; 24 of them come to the same one again.
    private static void scrubRing() {
        ParityRow row = new ParityRow(0);
        due("11: up to 22", row.scrub(23), 0);
        row.rot(0, 0, 0, 1);
        row.rot(1, 23, 0, 1);
        due("11: 23 is next", row.scrub(1), 1);
        due("11: 23 is mended", row.chunk(1, 23, 10), 1);
        due("11: 0 is not", row.chunk(0, 0, 10), 0);
        due("11: 0 is next", row.scrub(1), 1);
        due("11: 0 is mended", row.chunk(0, 0, 10), 1);
        due("11: a whole ring", row.scrub(24), 0);
        row.rot(0, 1, 0, 1);
        due("11: 1 is next again", row.scrub(1), 1);
        due("19: n reads each", row.count(READS), 3 * (23 + 1 + 1 + 24 + 1));
        for (int n : new int[] {0, 1, 24, 25}) {
            row = new ParityRow(1);
            for (int s = 0; s < 24; s++) {
                row.rot(s % 4, s, 0, 1);
            }
            due("11: scrub(" + n + ")", row.scrub(n), n == 0 || n == 25 ? OUTSIDE : n);
            due("19: MENDED", row.count(MENDED), n % 25);
        }
    }

    // "one that is not THERE, the others being THERE, is written as their xor: MENDED; .. Two or more that are not THERE
    // stay": none, each one, each two, and all.
    private static void scrubOneOrMore() {
        for (int rotten = 0; rotten < 16; rotten++) {
            ParityRow row = new ParityRow(1);
            row.write(0, 3, 100);
            row.drain(1);
            int writes = row.count(0);
            for (int m = 0; m < 4; m++) {
                if ((rotten >> m & 1) == 1) {
                    row.rot(m, 0, 3, 32);
                }
            }
            boolean one = Integer.bitCount(rotten) == 1;
            due("11: rotten " + rotten, row.scrub(1), one ? 1 : 0);
            due("11: writes", row.count(0) - writes, one ? 1 : 0);
            due("19: reads", row.count(READS), 4);
            for (int m = 0; m < 4; m++) {
                due("11: member " + m, row.chunk(m, 0, 10), one || (rotten >> m & 1) == 0 ? 1 : 0);
            }
            for (int block = 0; one && block < 3; block++) {
                dueWords("11: mended", row, block, 100 + 8 * block);
            }
        }
    }

    // "if all are THERE and their xor is not 0: the parity is written as the xor of the data: MENDED."
    private static void scrubUneven() {
        for (int m = 0; m < 4; m++) {
            ParityRow row = new ParityRow(1);
            rotUnseen(row, m, 2);
            due("20: uneven", row.audit(), 1);
            due("11: stripes 0 and 1", row.scrub(2), 0);
            due("11: stripe 2", row.scrub(1), 1);
            due("20: even", row.audit(), 0);
            for (int k = 0; k < 4; k++) {
                due("11: the parity's member, 1, is written", row.member(k, 2), k == 1 ? 1 : 0);
            }
            due("11: the parity", row.chunk(1, 2, 0), m == 1 ? 0 : 3);
        }
    }

    // Power at the chunk that would be MENDED: it is not; and where scrubbing stood is gone.
    private static void scrubLosesPower() {
        ParityRow row = new ParityRow(0);
        row.scrub(10);
        row.rot(1, 10, 0, 1);
        row.rot(1, 12, 0, 1);
        row.cut(1, 0);
        due("11: power at the second", row.scrub(24), LOST);
        due("19: MENDED", row.count(MENDED), 1);
        due("19: reads", row.count(READS), 3 * 13);
        due("11: down", row.scrub(1), DOWN);
        row.start(NONE);
        row.rot(2, 0, 0, 1);
        due("4: scrubbing goes on at 0", row.scrub(1), 1);
        due("15: stripe 0", row.chunk(2, 0, 10), 1);
        due("15: stripe 12 is TORN", row.chunk(1, 12, 9), 1);
        due("11: it is mended", row.scrub(12), 1);
    }

    // ======== 4 AFTER POWER CAME BACK

    // "then the MARK is written behind them (also without any)"; "the next SERIAL is one more than that of the latest
    // record that counted (than the MARK's less 1, if none did)."
    private static void markWithoutRecords() {
        ParityRow row = new ParityRow(0);
        row.write(0, 1, 1);
        row.write(0, 1, 2);
        row.drain(2);
        row.cut(0, 0);
        row.write(0, 1, 3);
        due("14: power at the MARK alone", row.start(0), LOST);
        due("19: MARKS", row.count(MARKS), 3);
        due("14: none", row.start(NONE), 0);
        due("19: MARKS", row.count(MARKS), 4);
        dueJournal("14: then", row, 32, 0, 3, 8, 3);
        due("19: none done again", row.count(AGAIN), 0);
    }

    // "from the MARK on, records that COUNT .. are done again, in order": from none to a full journal.
    private static void doneAgain() {
        for (int records = 0; records <= 4; records++) {
            ParityRow row = new ParityRow(3);
            for (int k = 0; k < records; k++) {
                row.write(0, 5, 1000 * (k + 1));
            }
            row.cut(1, 0);
            // The second write is a cell, or of a drain that makes room.
            due("4: power goes", row.write(5, 1, 9), LOST);
            due("14: records", row.start(NONE), records);
            due("19: done again", row.count(AGAIN), records);
            dueJournal("14: then", row, 32, 0, records + 1, 8 * records % 32, records + 1);
            due("14: the last one's words", word(row, 0, 0), 1000 * records);
            due("14: of its member", row.look(0), 0);
            due("14: nothing of the last write", word(row, 5, 0), 0);
            due("20: even", row.audit(), 0);
        }
    }

    // "A NEW member has BUILT 0 again (since power went)": also at the last MARK; nothing is done again to it.
    private static void builtAgain() {
        ParityRow row = new ParityRow(0);
        row.write(0, 2, 100);
        row.drain(1);
        row.lose(0);
        row.spare();
        row.cut(24, 0);
        due("10: power at the last MARK", row.build(24), LOST);
        due("16: NEW", row.member(0, 0), 2);
        due("16: BUILT, when down", row.member(0, 1), 0);
        due("14: back", row.start(NONE), 0);
        due("16: BUILT", row.member(0, 1), 0);
        row.build(23);
        row.write(0, 2, 300);
        row.cut(5, 0);
        due("4: power at the first cell behind it", row.write(2, 2, 1) == 2 ? row.write(2, 1, 1) : 0, LOST);
        int written = row.member(0, 2);
        due("14: two", row.start(NONE), 2);
        due("14: not to it", row.member(0, 2), written);
        due("16: BUILT", row.member(0, 1), 0);
        due("5: by the others", row.look(0), 2);
        dueWords("5: by the others", row, 0, 300);
        due("10: all", row.build(24), 0);
        dueWords("10: of its member", row, 0, 300);
        row.cut(0, 0);
        row.write(0, 1, 1);
        due("16: ON stays ON", row.member(0, 0), 0);
        due("16: BUILT 24", row.member(0, 1), 24);
        row = new ParityRow(0);
        row.lose(1);
        row.cut(0, 0);
        row.write(0, 1, 1);
        row.start(NONE);
        due("16: LOST stays LOST", row.member(1, 0), 1);
        due("9: a disk in its place", row.spare(), 1);
    }

    // ======== the promises

    // "n is 3 + (members modulo 4, from 0 on)"
    private static void modulo() {
        int[] given = {-5, -4, -3, -2, -1, 0, 1, 2, 3, 4, 5, 7, 8, MIN, MIN + 1, MIN + 3, MAX - 3, MAX - 1, MAX};
        int[] n = {6, 3, 4, 5, 6, 3, 4, 5, 6, 3, 4, 6, 3, 3, 4, 6, 3, 5, 6};
        for (int k = 0; k < n.length; k++) {
            ParityRow row = new ParityRow(given[k]);
            due("2: members of " + given[k], row.members(), n[k]);
            due("16: the last member", row.member(n[k] - 1, 0), 0);
            due("16: behind the last", row.member(n[k], 0), UNKNOWN);
            due("3: the last block", row.place(24 * (n[k] - 1) - 1, 0), 23);
            due("3: behind the last", row.place(24 * (n[k] - 1), 0), UNKNOWN);
        }
    }

    // "Blocks from one on, so many (1 .. 2 (n - 1)), are written, stripe by stripe"
    private static void writeBounds() {
        for (int members = 0; members < 4; members++) {
            int d = 2 + members;
            int blocks = 24 * d;
            for (int count : new int[] {-1, 0, 1, 2 * d, 2 * d + 1}) {
                boolean in = count > 0 && count <= 2 * d;
                due("4: count " + count, new ParityRow(members).write(0, count, 1), in ? count : OUTSIDE);
                int first = blocks - count;
                due("4: up to the last block", new ParityRow(members).write(first, count, 1),
                        in ? count : count > 0 ? OUTSIDE : UNKNOWN);
                if (in) {
                    due("4: one too far", new ParityRow(members).write(first + 1, count, 1), UNKNOWN);
                }
            }
            ParityRow row = new ParityRow(members);
            row.write(d - 1, 2 * d, 1);
            due("4: three stripes", row.journal(1), 3);
            due("4: one datum", row.record(0, 1), 1 << d - 1);
            due("4: all data", row.record(1, 1), (1 << d) - 1);
            due("4: the other data", row.record(2, 1), (1 << d - 1) - 1);
            row = new ParityRow(members);
            row.write(d, 2 * d, 1);
            due("4: two stripes", row.journal(1), 2);
            due("4: stripe 1", row.record(0, 0), 1);
            due("4: stripe 2", row.record(1, 0), 2);
        }
    }

    // "word i of the k-th (from 0) is v + 8 k + i, wrapping"
    private static void wordsWrap() {
        ParityRow row = new ParityRow(3);
        row.write(0, 10, MAX - 39);
        for (int drained = 0; drained < 2; drained++) {
            due("4: the first", word(row, 0, 0), MAX - 39);
            due("4: the last that does not wrap", word(row, 4, 7), MAX);
            due("4: the first that wraps", word(row, 5, 0), MIN);
            due("4: the last", word(row, 9, 7), MIN + 39);
            row.drain(2);
        }
        row = new ParityRow(0);
        row.write(0, 1, MAX);
        due("4: in one block", word(row, 0, 0), MAX);
        due("4: in one block", word(row, 0, 1), MIN);
    }

    // "From where a block's words come: 0 its member, 1 the journal, 2 the others of its stripe, 3 nothing."
    private static void lookBounds() {
        for (int members = 0; members < 4; members++) {
            int n = 3 + members;
            int last = 24 * (n - 1) - 1;
            ParityRow row = new ParityRow(members);
            due("5: -1", row.look(-1), UNKNOWN);
            due("5: behind the last", row.look(last + 1), UNKNOWN);
            due("6: behind the last", word(row, last + 1, 0), BOUNDS);
            due("5: its member", row.look(last), 0);
            row.rot(row.place(last, 1), 23, 0, 1);
            due("5: the others", row.look(last), 2);
            due("6: by the others", word(row, last, 7), 0);
            due("6: no word 8", word(row, last, 8), BOUNDS);
            due("6: no word -1", word(row, last, -1), BOUNDS);
            row.rot(row.place(last, 2), 23, 0, 1);
            due("5: nothing, the parity is not THERE", row.look(last), 3);
            due("6: nothing", word(row, last, 0), ILLEGAL);
            row.rot(row.place(last, 2), 23, 0, 1);
            row.rot(row.place(last - 1, 1), 23, 0, 1);
            due("5: nothing, another datum is not THERE", row.look(last), 3);
            due("4: no way for it alone", row.write(last, 1, 4), FAILED);
            due("5: nothing still", row.look(last), 3);
            row.write(last - n + 2, n - 1, 4);
            due("5: the journal", row.look(last), 1);
            due("6: the journal", word(row, last, 7), 4 + 8 * (n - 2) + 7);
        }
    }

    // "So many records (1 .. 32) are DRAINED, or all that there are: how many are left."
    private static void drainBounds() {
        for (int n : new int[] {0, 1, 2, 3, 4, 32, 33}) {
            ParityRow row = new ParityRow(0);
            for (int k = 0; k < 3; k++) {
                row.write(2 * k, 1, 1);
            }
            due("7: drain(" + n + ")", row.drain(n), n == 0 || n == 33 ? OUTSIDE : n < 3 ? 3 - n : 0);
            due("7: DRAINED", row.count(DRAINED), n == 33 ? 0 : Math.min(n, 3));
            due("7: MARKS", row.count(MARKS), n == 33 ? 0 : Math.min(n, 3));
        }
        ParityRow row = new ParityRow(0);
        row.cut(0, 0);
        due("7: none is there", row.drain(1), 0);
        due("7: none is there", row.drain(32), 0);
        due("7: so there is no write", row.count(0), 0);
        row = new ParityRow(0);
        row.lose(2);
        for (int k = 0; k < 10; k++) {
            row.write(6 * (k % 8), 1, k);
        }
        due("7: ten, as many as can be", row.journal(1), 10);
        due("7: nine of them", row.drain(9), 1);
        due("7: the last", row.drain(1), 0);
    }

    // "A new disk in place of the LOST member, all 0: it is NEW, BUILT 0: which member."
    private static void newDisk() {
        for (int m : new int[] {0, 5}) {
            ParityRow row = new ParityRow(3);
            row.write(0, 10, 77);
            row.drain(2);
            row.rot(m, 0, 0, 1);
            row.cut(0, 4);
            due("11: TORN by a scrub", row.scrub(1), LOST);
            row.start(NONE);
            due("15: TORN", row.chunk(m, 0, 9), 1);
            row.rot(m, 23, 7, 5);
            int written = row.member(m, 2);
            row.lose(m);
            due("15: what it had, when LOST", row.chunk(m, 23, 7), 5);
            due("16: BUILT, when LOST", row.member(m, 1), 0);
            due("9: which one", row.spare(), m);
            for (int s : new int[] {0, 1, 23}) {
                for (int i = 0; i <= 10; i++) {
                    due("9: all 0", row.chunk(m, s, i), 0);
                }
            }
            due("16: NEW", row.member(m, 0), 2);
            due("16: BUILT", row.member(m, 1), 0);
            due("16: what was written to the member", row.member(m, 2), written);
        }
    }

    // "STATE (one is not ON)", "STATE (none is LOST)", "STATE (none is NEW)", "STATE (a member is not ON)"
    private static void statesInTurn() {
        ParityRow row = new ParityRow(1);
        due("9: all ON", row.spare(), STATE);
        due("10: all ON", row.build(1), STATE);
        due("11: all ON", row.scrub(1), 0);
        due("8: all ON", row.lose(3), 1);
        due("8: LOST", row.lose(0), STATE);
        due("8: LOST itself", row.lose(3), STATE);
        due("10: LOST", row.build(1), STATE);
        due("11: LOST", row.scrub(1), STATE);
        due("9: LOST", row.spare(), 3);
        due("8: NEW", row.lose(0), STATE);
        due("8: NEW itself", row.lose(3), STATE);
        due("9: NEW", row.spare(), STATE);
        due("11: NEW", row.scrub(1), STATE);
        due("10: NEW", row.build(24), 0);
        due("10: ON again", row.build(1), STATE);
        due("9: ON again", row.spare(), STATE);
        due("11: ON again", row.scrub(1), 0);
        due("8: ON again", row.lose(3), 1);
    }

    // "Word i (0 .. 7) of a chunk is xored with a mask, its SUM stays: what it is then." It may be a refusal's number.
    private static void rotBounds() {
        ParityRow row = new ParityRow(0);
        due("12: mask 0", row.rot(2, 23, 7, 0), 0);
        due("12: THERE still", row.chunk(2, 23, 10), 1);
        due("12: MIN", row.rot(2, 23, 7, MIN), MIN);
        due("12: all bits", row.rot(2, 23, 7, -1), MAX);
        due("12: back to 0", row.rot(2, 23, 7, MAX), 0);
        due("12: as UNKNOWN", row.rot(0, 0, 0, UNKNOWN), UNKNOWN);
        due("15: (A value may be the same number.)", row.chunk(0, 0, 0), UNKNOWN);
        due("12: its SUM stays", row.chunk(0, 0, 8), 0);
        due("12: the others stay", row.chunk(0, 0, 1) + row.chunk(0, 1, 0) + row.chunk(1, 0, 0), 0);
        row.write(3, 1, OUTSIDE);
        due("6: as OUTSIDE", word(row, 3, 0), OUTSIDE);
    }

    // "Power goes at the n-th write from now on (0 the next one)"; "NONE: it stays"; "OUTSIDE (n -1 .. 1000, tear)"
    private static void cutBounds() {
        int[] n = {-2, -1, 0, 1000, 1001};
        int[] answer = {OUTSIDE, 1, 1, 1, OUTSIDE};
        for (int k = 0; k < 5; k++) {
            due("13: cut(" + n[k] + ", 0)", new ParityRow(0).cut(n[k], 0), answer[k]);
        }
        for (int at : new int[] {0, 1, 3, 4}) {
            ParityRow row = new ParityRow(0);
            row.cut(at, 0);
            due("13: power at write " + at, row.write(0, 1, 1), at < 4 ? LOST : 1);
            due("19: writes", row.count(0), at < 4 ? at + 1 : 4);
        }
        ParityRow row = new ParityRow(3);
        row.cut(1000, 8);
        int got = 10;
        for (int k = 0; k < 100 && got == 10; k++) {
            got = row.write(0, 10, k);
        }
        due("13: it goes in the end", got, LOST);
        due("13: 1000 writes before", row.count(0), 1001);
        row = new ParityRow(0);
        row.cut(5, 0);
        row.write(0, 1, 1);
        row.cut(5, 0);
        due("13: from now on", row.write(0, 1, 1), 1);
        due("13: from now on", row.write(0, 1, 1), LOST);
        due("19: writes", row.count(0), 4 + 6);
        row = new ParityRow(0);
        row.cut(0, 0);
        row.cut(NONE, 0);
        due("13: it stays", row.write(0, 1, 1), 1);
        row = new ParityRow(0);
        row.cut(3, 0);
        row.rot(0, 0, 0, 1);
        row.rot(0, 0, 0, 1);
        row.look(0);
        row.lose(0);
        row.spare();
        due("13: no write so far", row.build(3), 21);
        due("13: three writes stayed", row.build(1), LOST);
    }

    // "it goes once more at the n-th write of what is done again now (NONE: it stays; tear as it was told latest, 0 at
    // first)"; "STATE (it is not DOWN), OUTSIDE (n -1 .. 1000)". Two records of two chunks, then the MARK: five writes.
    private static void startBounds() {
        int[] n = {-2, -1, 0, 4, 5, 1000, 1001, MIN, MAX};
        int[] answer = {OUTSIDE, 2, LOST, LOST, 2, 2, OUTSIDE, OUTSIDE, OUTSIDE};
        for (int k = 0; k < n.length; k++) {
            ParityRow row = new ParityRow(0);
            due("14: not DOWN", row.start(n[k]), STATE);
            row.write(0, 1, 100);
            row.write(2, 1, 200);
            row.cut(0, 3);
            row.drain(1);
            due("14: start(" + n[k] + ")", row.start(n[k]), answer[k]);
            due("19: done again", row.count(AGAIN), n[k] == 0 || answer[k] == OUTSIDE ? 0 : 2);
            due("19: MARKS", row.count(MARKS), n[k] == 0 || answer[k] == OUTSIDE ? 0 : 1);
            due("17: the MARK's serial", row.journal(4), answer[k] == 2 ? 3 : 1);
            due("5: DOWN or not", row.look(0), answer[k] == 2 ? 0 : DOWN);
            if (answer[k] == 2) {
                due("14: of what is done again now", row.write(0, 2, 1), 2);
                due("14: not DOWN", row.start(n[k]), STATE);
            }
        }
        for (int at = 0; at < 4; at++) {
            ParityRow row = new ParityRow(0);
            row.write(0, 1, 100);
            row.write(2, 1, 200);
            row.cut(0, 3);
            row.drain(1);
            row.start(at);
            // Stripe 0: datum 0 is member 0's, the parity member 2's; stripe 1: datum 0 member 2's, parity member 1's.
            int m = at == 0 ? 0 : at == 3 ? 1 : 2;
            due("14: TORN", row.chunk(m, at / 2, 9), 1);
            due("14: tear as told latest", row.chunk(m, at / 2, 2), (at < 2 ? 100 : 200) + 2);
            due("14: and no more", row.chunk(m, at / 2, 3), 0);
            due("14: done again", row.count(AGAIN), at / 2);
            due("14: in the end", row.start(NONE), 2);
            dueWords("14: in the end", row, 2, 200);
        }
    }

    // "Of a chunk: word i (0 .. 7), its SUM (8), whether it is TORN (9; 1, 0), THERE (10; 1, 0)."
    private static void chunkBounds() {
        ParityRow row = new ParityRow(0);
        row.write(0, 1, 1);
        row.drain(1);
        long[] all = {OUTSIDE, 1, 2, 3, 4, 5, 6, 7, 8, 64 + 308, 0, 1, OUTSIDE};
        for (int i = -1; i <= 11; i++) {
            due("15: chunk(0, 0, " + i + ")", row.chunk(0, 0, i), all[i + 1]);
        }
    }

    // Of a member what 0 .. 2, of the journal 0 .. 4, of a record 0 .. 4 and k below their number, counts 0 .. 12.
    private static void whats() {
        ParityRow row = new ParityRow(2);
        row.write(2, 3, 1);
        int[] member = {OUTSIDE, 0, 24, 0, OUTSIDE};
        int[] journal = {OUTSIDE, 32 - 5 - 4, 2, 3, 0, 1, OUTSIDE};
        int[] older = {OUTSIDE, 0, 0b1100, 1, 1, 3, OUTSIDE};
        int[] newer = {OUTSIDE, 1, 0b0001, 1, 2, 2, OUTSIDE};
        int[] count = {OUTSIDE, 9, 9, 0, 2 + 2, 2, 0, 0, 0, 0, 0, 0, 1, 1, OUTSIDE};
        for (int what = -1; what <= 3; what++) {
            due("16: member(4, " + what + ")", row.member(4, what), member[what + 1]);
            due("16: member(5, " + what + ")", row.member(5, what), UNKNOWN);
        }
        for (int what = -1; what <= 5; what++) {
            due("17: journal(" + what + ")", row.journal(what), journal[what + 1]);
            due("18: record(0, " + what + ")", row.record(0, what), older[what + 1]);
            due("18: record(1, " + what + ")", row.record(1, what), newer[what + 1]);
            due("18: record(2, " + what + ")", row.record(2, what), UNKNOWN);
            due("18: record(-1, " + what + ")", row.record(-1, what), UNKNOWN);
        }
        for (int what = -1; what <= 13; what++) {
            due("19: count(" + what + ")", row.count(what), count[what + 1]);
        }
    }

    // "How many stripes there are in which all chunks are THERE and their xor is not 0 (of those without a LOST member
    // in them)": none, one, all; with a NEW member those below its BUILT.
    private static void auditBounds() {
        ParityRow row = new ParityRow(3);
        for (int s = 0; s < 24; s++) {
            due("20: so far", row.audit(), s);
            rotUnseen(row, s % 6, s);
        }
        due("20: all", row.audit(), 24);
        row.rot(0, 23, 7, 1);
        due("20: one is not THERE", row.audit(), 23);
        row.lose(1);
        due("20: a LOST member is in all", row.audit(), 0);
        row.spare();
        due("20: BUILT 0", row.audit(), 0);
        row.build(3);
        due("20: built even", row.audit(), 0);
        rotUnseen(row, 2, 0);
        due("20: below BUILT", row.audit(), 1);
        rotUnseen(row, 0, 2);
        due("20: the last below BUILT", row.audit(), 2);
        rotUnseen(row, 2, 3);
        due("20: not at BUILT", row.audit(), 2);
        for (int i = 0; i < 8; i++) {
            row = new ParityRow(0);
            // In another word the chunks have 1, 22 and 23, whose xor is 0; word i has what makes the SUM right.
            int other = i == 0 ? 1 : 0;
            int[] even = {1, 22, 23};
            for (int m = 0; m < 3; m++) {
                row.rot(m, 9, other, even[m]);
                row.rot(m, 9, i, -even[m] * (2 * other + 1) * inverse(2 * i + 1));
                due("15: THERE", row.chunk(m, 9, 10), 1);
            }
            due("20: uneven in word " + i + " alone", row.audit(), 1);
            due("11: mended", row.scrub(10), 1);
        }
        row = new ParityRow(0);
        rotUnseen(row, 0, 0);
        rotUnseen(row, 1, 0);
        due("20: two of them make it even", row.audit(), 0);
        rotUnseen(row, 2, 5);
        row.cut(0, 0);
        row.write(0, 1, 1);
        due("20: when DOWN, too", row.audit(), 1);
    }

    public static void main(String[] args) {
        fiveHundredAndTwelveCalls();
        sizes();
        sumWraps();
        wrongAndRightSums();
        parityInTurn();
        atFirst();
        onBelowBuilt();
        there();
        tearOf();
        powerGoes();
        ringOfCells();
        lastCell();
        cellsThatAreFree();
        drainedAsLongAs();
        cellsOfARecord();
        countsIfWhole();
        serialOnceMore();
        newest();
        fewerNewestOnes();
        readsOfTheWay();
        otherWay();
        waysZeroAndOne();
        failedInAStripe();
        failedDrainsNothing();
        drainedInOrder();
        builtWithTwentyFour();
        buildBounds();
        buildDrains();
        buildLosesPower();
        holesOnly();
        holeBetween();
        scrubRing();
        scrubOneOrMore();
        scrubUneven();
        scrubLosesPower();
        markWithoutRecords();
        doneAgain();
        builtAgain();
        modulo();
        writeBounds();
        wordsWrap();
        lookBounds();
        drainBounds();
        newDisk();
        statesInTurn();
        rotBounds();
        cutBounds();
        startBounds();
        chunkBounds();
        whats();
        auditBounds();
        System.out.println(wrong == 0 ? "all answers are as due" : wrong + " answers are not as due");
        if (wrong != 0) {
            System.exit(1);
        }
    }
}
