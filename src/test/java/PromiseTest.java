// Each promise of the document by itself: ordinary inputs, the edges that it names, wrong inputs.
public final class PromiseTest {
    private static final int DOWN = ParityRow.DOWN, UNKNOWN = ParityRow.UNKNOWN, OUTSIDE = ParityRow.OUTSIDE,
            STATE = ParityRow.STATE, FAILED = ParityRow.FAILED, LOST = ParityRow.LOST, NONE = ParityRow.NONE;
    private static final int MIN = Integer.MIN_VALUE, MAX = Integer.MAX_VALUE;
    private static final int BOUNDS = -1001, ILLEGAL = -1002;
    private static int wrong = 0;

    private static void due(String what, long got, long want) {
        if (got != want) {
            wrong++;
            System.out.println(what + " answered " + got + ", due is " + want);
        }
    }

    /** The word, or the exception as a number that no test here writes as a word. */
    private static int word(ParityRow row, int block, int i) {
        try {
            return row.word(block, i);
        } catch (IndexOutOfBoundsException e) {
            return BOUNDS;
        } catch (IllegalStateException e) {
            return ILLEGAL;
        }
    }

    private static void dueWords(String what, ParityRow row, int block, int first) {
        for (int i = 0; i < 8; i++) {
            due(what + ": word(" + block + ", " + i + ")", word(row, block, i), first + i);
        }
    }

    private static int[] chunkOf(ParityRow row, int member, int stripe) {
        int[] words = new int[8];
        for (int i = 0; i < 8; i++) {
            words[i] = row.chunk(member, stripe, i);
        }
        return words;
    }

    private static int sumOf(int[] words) {
        int sum = 0;
        for (int i = 0; i < 8; i++) {
            sum += words[i] * (2 * i + 1);
        }
        return sum;
    }

    /** A row whose power went at the first write of a drain of block 0's record. */
    private static ParityRow downRow(int members) {
        ParityRow row = new ParityRow(members);
        row.write(0, 1, 5);
        row.cut(0, 0);
        due("drain of a row that is to be down", row.drain(1), LOST);
        return row;
    }

    private static void aNewObject() {
        int[] given = {0, 1, 2, 3, 4, 7, -1, -2, -3, -4, MIN, MAX, MIN + 1};
        int[] members = {3, 4, 5, 6, 3, 6, 6, 5, 4, 3, 3, 6, 4};
        for (int k = 0; k < given.length; k++) {
            ParityRow row = new ParityRow(given[k]);
            due("1/2: members() of " + given[k], row.members(), members[k]);
            for (int m = 0; m < members[k]; m++) {
                due("1: member " + m, row.member(m, 0), 0);
                for (int i = 0; i < 10; i++) {
                    due("1: chunk at first", row.chunk(m, 23 - m, i), 0);
                }
                due("1: chunk THERE at first", row.chunk(m, 23 - m, 10), 1);
            }
            due("1: power stays", row.write(0, 1, 1), 1);
            due("1: power stays", row.drain(32), 0);
            due("1: it is not down", row.start(NONE), STATE);
        }
    }

    private static void place() {
        for (int members = 0; members < 4; members++) {
            ParityRow row = new ParityRow(members);
            int n = row.members();
            for (int block = 0; block < 24 * (n - 1); block++) {
                int stripe = block / (n - 1);
                int parity = n - 1 - stripe % n;
                due("3: stripe of " + block, row.place(block, 0), stripe);
                due("3: member of " + block, row.place(block, 1), (parity + 1 + block % (n - 1)) % n);
                due("3: parity of " + block, row.place(block, 2), parity);
            }
            due("3: the block behind the last", row.place(24 * (n - 1), 0), UNKNOWN);
            due("3: block -1", row.place(-1, 3), UNKNOWN);
            due("3: block MIN", row.place(MIN, 0), UNKNOWN);
            due("3: block MAX", row.place(MAX, 0), UNKNOWN);
            due("3: what 3", row.place(0, 3), OUTSIDE);
            due("3: what -1", row.place(0, -1), OUTSIDE);
        }
        due("3: when down", downRow(0).place(1, 1), 1);
    }

    private static void writeRefusals() {
        ParityRow row = new ParityRow(0);
        due("4: block first", row.write(48, 0, 1), UNKNOWN);
        due("4: block -1", row.write(-1, 1, 1), UNKNOWN);
        due("4: count 0", row.write(0, 0, 1), OUTSIDE);
        due("4: count 5", row.write(47, 5, 1), OUTSIDE);
        due("4: count MAX", row.write(47, MAX, 1), OUTSIDE);
        due("4: count MIN", row.write(0, MIN, 1), OUTSIDE);
        due("4: last block", row.write(47, 2, 1), UNKNOWN);
        due("4: refusals do nothing", row.count(0), 0);
        due("4: the last block", row.write(47, 1, 1), 1);
        due("4: as many as may be", row.write(44, 4, 1), 4);
        due("4: down before all", downRow(0).write(-1, 0, 1), DOWN);
    }

    private static void writeWords() {
        ParityRow row = new ParityRow(2);
        due("4: eight blocks over three stripes", row.write(3, 8, MAX - 20), 8);
        due("4: three records", row.journal(1), 3);
        for (int k = 0; k < 8; k++) {
            dueWords("4: by the journal", row, 3 + k, MAX - 20 + 8 * k);
        }
        due("4: drained", row.drain(32), 0);
        for (int k = 0; k < 8; k++) {
            dueWords("4: by the members", row, 3 + k, MAX - 20 + 8 * k);
        }
        due("4: block before", word(row, 2, 0), 0);
        due("4: block behind", word(row, 11, 0), 0);
        due("4: parity is right", row.audit(), 0);
    }

    /** WAYS by how many data are written, nothing lost; each NEWEST from a chunk is a READ. */
    private static void waysByCount() {
        int[][] ways = {{3, 0}, {2, 3, 0}, {2, 3, 3, 0}, {2, 2, 3, 3, 0}};
        for (int members = 0; members < 4; members++) {
            int n = 3 + members;
            for (int written = 1; written < n; written++) {
                ParityRow row = new ParityRow(members);
                row.write(0, written, 77);
                int way = ways[members][written - 1];
                String what = "4: " + written + " data of " + n + " members: ";
                due(what + "way", row.record(0, 4), way);
                due(what + "reads", row.count(3), way == 0 ? 0 : way == 2 ? written + 1 : n - 1 - written);
                due(what + "count of the way", row.count(9 + way), 1);
                due(what + "cells", row.count(1), written + 3);
                due(what + "records", row.count(4), 1);
                row.drain(1);
                due(what + "audit", row.audit(), 0);
                due(what + "drained writes", row.count(0), 2 * written + 5);
            }
        }
    }

    private static void newestFromJournalIsNoRead() {
        ParityRow row = new ParityRow(1);
        row.write(0, 1, 10);
        due("4: way 2 of chunks", row.count(3), 2);
        row.write(0, 1, 20);
        due("4: way 2 of the journal alone", row.count(3), 2);
        row.write(1, 1, 30);
        due("4: parity of the journal, datum of a chunk", row.count(3), 3);
        row.write(0, 2, 40);
        due("4: way 3, datum 2 of a chunk", row.count(3), 4);
        due("4: way 3", row.record(3, 4), 3);
        row.drain(32);
        due("4: audit", row.audit(), 0);
    }

    private static void waysWithALostMember() {
        ParityRow row = new ParityRow(3);
        row.write(0, 5, 100);
        row.drain(1);
        row.lose(5);
        row.write(0, 1, 1);
        due("4: parity's member lost, way", row.record(0, 4), 1);
        due("4: parity's member lost, parity", row.record(0, 2), 0);
        due("4: parity's member lost, reads", row.count(3), 0);
        due("4: three cells", row.journal(0), 29);
        row.write(0, 5, 2);
        due("4: all data come first", row.record(1, 4), 0);
        due("4: all data with a parity", row.record(1, 2), 1);
        due("4: eight cells", row.journal(0), 21);
        int before = row.member(5, 2);
        row.drain(32);
        due("4: not written to a lost member", row.member(5, 2), before);

        row = new ParityRow(3);
        row.write(0, 5, 100);
        row.drain(1);
        row.lose(0);
        row.write(0, 1, 1);
        due("4: old datum is none, so way 3", row.record(0, 4), 3);
        due("4: reads of way 3", row.count(3), 4);
        row.write(1, 3, 50);
        due("4: datum 0 of the journal, so way 3", row.record(1, 4), 3);
        row.drain(32);
        dueWords("4: lost datum, by the others", row, 0, 1);
        row.write(1, 4, 60);
        due("4: other datum is none, so way 2", row.record(0, 4), 2);
        due("4: reads of way 2", row.count(3), 4 + 1 + 5);
        dueWords("4: lost datum stays", row, 0, 1);
        row.drain(32);
        dueWords("4: lost datum stays when drained", row, 0, 1);
    }

    private static void writeFails() {
        ParityRow row = new ParityRow(1);
        row.rot(0, 1, 0, 1);
        row.rot(2, 1, 0, 1);
        due("4: stripe 1 fails", row.write(2, 2, 1), FAILED);
        due("4: stripe 0 stays written", row.journal(1), 1);
        dueWords("4: stripe 0 stays written", row, 2, 1);
        due("4: no reads of a write that failed", row.count(3), 2);
        due("4: what was before is there for it", row.look(3), 0);
        due("4: it goes on with a later write", row.write(3, 3, 1), 3);
    }

    private static void writeMakesRoom() {
        ParityRow row = new ParityRow(3);
        for (int k = 0; k < 4; k++) {
            due("4: full stripes", row.write(5 * k, 5, k), 5);
        }
        due("4: the journal is full", row.journal(0), 0);
        due("4: nothing drained yet", row.count(5), 0);
        due("4: one more", row.write(20, 1, 9), 1);
        due("4: the oldest was drained", row.count(5), 1);
        due("4: free cells", row.journal(0), 4);
        due("4: mark's cell", row.journal(3), 8);
        due("4: mark's serial", row.journal(4), 2);
        due("4: four cells fit", row.write(20, 1, 9), 1);
        due("4: no drain", row.count(5), 1);
        due("4: two stripes", row.write(25, 10, 9), 10);
        due("4: drained one for each", row.count(5), 3);
        due("4: the ring goes round", row.journal(2), 9);
        row.drain(32);
        due("4: mark's cell in a ring", row.journal(3), (4 * 8 + 4 + 4 + 8 + 8) % 32);
        due("4: mark's serial", row.journal(4), 9);
        due("4: audit", row.audit(), 0);
    }

    /** With member 2 lost the stripes 0, 3, 6, .. have no parity: records of three cells, as many as can be. */
    private static void manySmallRecords() {
        ParityRow row = new ParityRow(0);
        row.lose(2);
        for (int k = 0; k < 8; k++) {
            due("4: small record", row.write(6 * k, 1, 100 * k), 1);
        }
        row.write(1, 1, 800);
        row.write(7, 1, 900);
        due("4: ten of three cells", row.journal(1), 10);
        due("4: two cells are free", row.journal(0), 2);
        due("4: one more", row.write(13, 1, 1000), 1);
        due("4: ten again", row.journal(1), 10);
        due("4: way 1", row.count(10), 11);
        due("4: the oldest is drained", row.look(0), 0);
        for (int k = 0; k < 10; k++) {
            int block = k < 7 ? 6 * (k + 1) : 6 * (k - 7) + 1;
            due("18: stripe of record " + k, row.record(k, 0), block / 2);
            due("18: data of record " + k, row.record(k, 1), k < 7 ? 1 : 2);
            due("18: serial of record " + k, row.record(k, 3), k + 2);
            due("5: of the journal", row.look(block), 1);
            dueWords("4: of the journal", row, block, 100 * (k + 1));
        }
        row.drain(32);
        for (int k = 0; k < 8; k++) {
            dueWords("7: drained", row, 6 * k, 100 * k);
        }
    }

    private static void writeLosesPower() {
        for (int at = 0; at < 10; at++) {
            ParityRow row = new ParityRow(0);
            row.cut(at, 8);
            due("4: power goes at " + at, row.write(0, 4, 1), LOST);
            due("4: cells written", row.count(1), at + 1);
            due("4: writes", row.count(0), at + 1);
            due("4: records", row.count(4), at < 5 ? 0 : 1);
            due("14: records that counted", row.start(NONE), at < 5 ? 0 : 1);
            due("14: next serial", row.journal(2), at < 5 ? 1 : 2);
            due("4: first stripe", word(row, 0, 0), at < 5 ? 0 : 1);
            due("4: second stripe", word(row, 2, 0), 0);
        }
        ParityRow row = new ParityRow(0);
        row.cut(10, 8);
        due("4: power would go behind", row.write(0, 4, 1), 4);
        due("4: power goes at the next write", row.write(0, 1, 1), LOST);
        due("14: both counted", row.start(NONE), 2);
    }

    private static void look() {
        ParityRow row = new ParityRow(0);
        due("5: its member", row.look(0), 0);
        row.write(0, 1, 1);
        due("5: the journal", row.look(0), 1);
        due("5: another datum of the record's stripe", row.look(1), 0);
        row.drain(1);
        due("5: its member again", row.look(0), 0);
        row.lose(0);
        due("5: the others", row.look(0), 2);
        row.rot(1, 0, 0, 1);
        due("5: nothing", row.look(0), 3);
        due("5: nothing", row.look(1), 3);
        row.write(0, 2, 3);
        due("5: the journal before nothing", row.look(0), 1);
        due("5: block -1", row.look(-1), UNKNOWN);
        due("5: block 48", row.look(48), UNKNOWN);
        due("5: block 47", row.look(47), 0);
        due("5: down first", downRow(0).look(-1), DOWN);
        row = new ParityRow(0);
        row.rot(0, 0, 7, MIN);
        due("5: rotten, so the others", row.look(0), 2);
        due("5: looks are no reads", row.count(3), 0);
        row.write(1, 1, 4);
        due("5: the others' chunks, not the journal's", word(row, 0, 0), 0);
    }

    private static void word() {
        ParityRow row = new ParityRow(0);
        due("6: block -1", word(row, -1, 0), BOUNDS);
        due("6: block 48", word(row, 48, 0), BOUNDS);
        due("6: i -1", word(row, 0, -1), BOUNDS);
        due("6: i 8", word(row, 0, 8), BOUNDS);
        due("6: i MAX", word(row, 0, MAX), BOUNDS);
        row.write(0, 2, 100);
        dueWords("6: journal", row, 1, 108);
        row.drain(1);
        dueWords("6: member", row, 1, 108);
        row.lose(1);
        dueWords("6: others", row, 1, 108);
        row.rot(0, 0, 0, 1);
        due("6: nothing", word(row, 1, 0), ILLEGAL);
        due("6: nothing, but i is wrong", word(row, 1, 8), BOUNDS);
        row = downRow(0);
        due("6: down", word(row, 0, 0), ILLEGAL);
        due("6: down, but the block is wrong", word(row, 48, 0), BOUNDS);
        due("6: words are no reads", row.count(3), 1);
    }

    private static void drain() {
        ParityRow row = new ParityRow(0);
        due("7: nothing to drain", row.drain(32), 0);
        due("7: nothing was written", row.count(0), 0);
        for (int k = 0; k < 4; k++) {
            row.write(2 * k, 1, 10 * k);
        }
        due("7: 0", row.drain(0), OUTSIDE);
        due("7: 33", row.drain(33), OUTSIDE);
        due("7: one", row.drain(1), 3);
        due("7: datum", row.chunk(0, 0, 3), 3);
        due("7: parity", row.chunk(2, 0, 3), 3);
        due("7: SUM", row.chunk(2, 0, 8), sumOf(chunkOf(row, 2, 0)));
        due("7: the next one is not", row.chunk(2, 1, 3), 0);
        due("7: marks", row.count(2), 1);
        due("7: mark's cell", row.journal(3), 4);
        due("7: mark's serial", row.journal(4), 2);
        due("7: free", row.journal(0), 20);
        due("7: two", row.drain(2), 1);
        due("7: more than there are", row.drain(32), 0);
        due("7: DRAINED", row.count(5), 4);
        due("7: next serial", row.journal(2), 5);
        due("7: down first", downRow(0).drain(0), DOWN);
        for (int at = 0; at < 6; at++) {
            row = new ParityRow(0);
            row.write(0, 1, 1);
            row.write(2, 1, 2);
            row.cut(at, 4);
            due("7: power goes at " + at, row.drain(2), LOST);
            due("7: DRAINED", row.count(5), at / 3);
            due("7: marks with the one at which power went", row.count(2), (at + 1) / 3);
            due("7: mark's serial", row.journal(4), 1 + at / 3);
            due("7: mark's cell", row.journal(3), 4 * (at / 3));
            due("14: counted", row.start(NONE), 2 - at / 3);
            dueWords("14: done again", row, 0, 1);
            dueWords("14: done again", row, 2, 2);
            due("14: from its member", row.look(2), 0);
            due("14: parity too", row.audit(), 0);
            due("14: next serial", row.journal(2), 3);
        }
    }

    private static void drainInOrder() {
        int[] members = {3, 0, 1, 2};
        for (int at = 0; at < 4; at++) {
            ParityRow row = new ParityRow(1);
            row.write(3, 3, 7);
            row.cut(at, 3);
            row.drain(1);
            for (int k = 0; k < 4; k++) {
                due("7: order, write " + at + " TORN", row.chunk(members[k], 1, 9), k == at ? 1 : 0);
                due("7: order, write " + at + " written", row.member(members[k], 2), k <= at ? 1 : 0);
            }
        }
    }

    private static void loseAndSpare() {
        ParityRow row = new ParityRow(0);
        due("8: member -1", row.lose(-1), UNKNOWN);
        due("8: member 3", row.lose(3), UNKNOWN);
        due("9: none is lost", row.spare(), STATE);
        row.write(0, 2, 100);
        row.drain(1);
        due("8: lost", row.lose(1), 1);
        due("16: LOST", row.member(1, 0), 1);
        due("16: BUILT", row.member(1, 1), 0);
        due("15: its words stay", row.chunk(1, 0, 0), 108);
        due("15: not THERE", row.chunk(1, 0, 10), 0);
        due("8: UNKNOWN before STATE", row.lose(3), UNKNOWN);
        due("8: the same", row.lose(1), STATE);
        due("8: another", row.lose(0), STATE);
        row.rot(1, 0, 0, 1);
        due("9: which one", row.spare(), 1);
        due("9: NEW", row.member(1, 0), 2);
        due("9: BUILT", row.member(1, 1), 0);
        for (int i = 0; i < 11; i++) {
            due("9: all 0, not THERE", row.chunk(1, 0, i), 0);
        }
        due("9: what was written to the member", row.member(1, 2), 1);
        due("9: no more", row.spare(), STATE);
        due("8: one is NEW", row.lose(0), STATE);
        due("8: the NEW one", row.lose(1), STATE);
        row = downRow(0);
        due("8: down first", row.lose(-1), DOWN);
        due("9: down first", row.spare(), DOWN);
        row = new ParityRow(0);
        row.rot(0, 0, 0, 1);
        row.cut(0, 3);
        row.scrub(1);
        row.start(NONE);
        due("13: TORN by a scrub", row.chunk(0, 0, 9), 1);
        row.lose(0);
        row.spare();
        due("9: nothing torn", row.chunk(0, 0, 9), 0);
    }

    private static void build() {
        ParityRow row = new ParityRow(2);
        for (int block = 0; block < 96; block += 8) {
            row.write(block, 8, 1000 + 8 * block);
        }
        due("10: none is NEW", row.build(1), STATE);
        due("10: OUTSIDE before STATE", row.build(0), OUTSIDE);
        due("10: 25", row.build(25), OUTSIDE);
        row.lose(3);
        due("10: LOST is not NEW", row.build(1), STATE);
        row.spare();
        int records = row.journal(1);
        int first = row.record(0, 0);
        due("10: four records are left", records, 4);
        due("10: of the last stripes", first, 20);
        int reads = row.count(3);
        int marks = row.count(2);
        due("10: some", row.build(20), 4);
        due("10: BUILT", row.member(3, 1), 20);
        due("10: NEW", row.member(3, 0), 2);
        due("10: no record of these", row.journal(1), 4);
        due("10: reads", row.count(3), reads + 80);
        due("15: THERE below BUILT", row.chunk(3, 19, 10), 1);
        due("15: not THERE at BUILT", row.chunk(3, 20, 10), 0);
        due("11: a member is not ON", row.scrub(1), STATE);
        due("10: one more", row.build(1), 3);
        due("10: its record was drained", row.journal(1), 3);
        due("10: the rest", row.build(24), 0);
        due("10: ON", row.member(3, 0), 0);
        due("10: BUILT", row.member(3, 1), 24);
        due("10: MARKS: four drains and the end", row.count(2), marks + 5);
        due("10: writes to it", row.member(3, 2), 20 + 24);
        due("10: none is NEW", row.build(1), STATE);
        due("10: audit", row.audit(), 0);
        for (int block = 0; block < 96; block++) {
            due("10: built up", word(row, block, 0), 1000 + 8 * block);
            due("10: built up", word(row, block, 7), 1007 + 8 * block);
            due("10: from its member", row.look(block), 0);
        }
        due("10: down first", downRow(0).build(0), DOWN);
    }

    private static void buildDrainsUpToTheLast() {
        ParityRow row = new ParityRow(0);
        row.lose(0);
        row.write(10, 1, 1);
        row.write(2, 1, 2);
        row.write(12, 1, 3);
        row.write(2, 1, 4);
        row.write(14, 1, 5);
        row.spare();
        due("10: stripe 0 is in no record", row.build(1), 23);
        due("10: none drained", row.journal(1), 5);
        due("10: stripe 1 is", row.build(1), 22);
        due("10: up to the last that has it", row.journal(1), 1);
        due("10: the one behind stays", row.record(0, 0), 7);
        due("10: DRAINED", row.count(5), 4);
        due("10: parity of stripe 5 to the others alone", row.member(0, 2), 2);
        row.write(2, 1, 6);
        row.write(5, 1, 7);
        due("4: ON below BUILT: way 3", row.record(1, 4), 3);
        due("4: parity's member not ON at BUILT: way 1", row.record(2, 4), 1);
        row.write(3, 1, 8);
        int before = row.member(0, 2);
        row.drain(32);
        due("7: written below BUILT: datum 1 of stripe 1", row.member(0, 2), before + 1);
        row.build(24);
        due("10: audit", row.audit(), 0);
        dueWords("10: block 2", row, 2, 6);
        dueWords("10: block 3", row, 3, 8);
        dueWords("10: block 5", row, 5, 7);
    }

    private static void holes() {
        ParityRow row = new ParityRow(0);
        row.write(0, 2, 100);
        row.drain(1);
        row.lose(0);
        row.spare();
        row.rot(1, 0, 0, 1);
        int writes = row.count(0);
        int reads = row.count(3);
        due("10: a hole", row.build(1), 23);
        due("10: HOLES", row.count(8), 1);
        due("10: without a write", row.count(0), writes);
        due("10: without reads", row.count(3), reads);
        due("10: TORN", row.chunk(0, 0, 9), 1);
        due("10: words stay 0", row.chunk(0, 0, 0), 0);
        due("10: BUILT", row.member(0, 1), 1);
        due("10: nothing", row.look(0), 3);
        row.rot(1, 0, 0, 1);
        due("10: the others are there again", row.look(0), 2);
        due("10: on", row.build(24), 0);
        due("11: a hole is mended", row.scrub(1), 1);
        dueWords("11: mended", row, 0, 100);
    }

    private static void buildLosesPower() {
        ParityRow row = new ParityRow(0);
        row.write(0, 4, 100);
        row.drain(2);
        row.lose(0);
        row.spare();
        row.cut(1, 3);
        due("10: power goes at stripe 1", row.build(5), LOST);
        due("10: BUILT 0 since power went", row.member(0, 1), 0);
        due("10: NEW", row.member(0, 0), 2);
        due("10: reads before", row.count(3), 4);
        due("13: TORN", row.chunk(0, 1, 9), 1);
        due("13: new words", row.chunk(0, 1, 2), 126);
        due("13: old words", row.chunk(0, 1, 3), 0);
        due("15: not THERE", row.chunk(0, 0, 10), 0);
        due("16: written", row.member(0, 2), 4);
        due("14: none counted", row.start(NONE), 0);
        due("14: BUILT 0", row.member(0, 1), 0);
        row.cut(24, 0);
        due("10: power goes at the MARK", row.build(24), LOST);
        due("10: still NEW", row.member(0, 0), 2);
        due("10: BUILT 0", row.member(0, 1), 0);
        row.start(NONE);
        row.write(0, 2, 100);
        row.cut(0, 0);
        due("10: power goes at a drain", row.build(24), LOST);
        due("10: before the reads", row.count(3), 4 + 48);
        due("10: down", row.build(24), DOWN);
        due("14: that record counted", row.start(NONE), 1);
        due("10: once more", row.build(24), 0);
        due("10: ON", row.member(0, 0), 0);
        dueWords("10: all is there", row, 0, 100);
        due("10: audit", row.audit(), 0);
    }

    private static void scrub() {
        ParityRow row = new ParityRow(1);
        due("11: 0", row.scrub(0), OUTSIDE);
        due("11: 25", row.scrub(25), OUTSIDE);
        for (int block = 0; block < 72; block += 6) {
            row.write(block, 6, block);
        }
        row.drain(32);
        int reads = row.count(3);
        int writes = row.count(0);
        due("11: all is well", row.scrub(24), 0);
        due("11: reads", row.count(3), reads + 96);
        due("11: no writes", row.count(0), writes);
        row.rot(0, 1, 2, 8);
        row.rot(2, 1, 2, 8);
        row.rot(1, 2, 5, 8);
        row.rot(3, 23, 0, MIN);
        due("11: one stripe", row.scrub(1), 0);
        due("11: two rotten ones stay, one is mended", row.scrub(2), 1);
        due("11: mended", row.chunk(1, 2, 10), 1);
        due("11: stay", row.chunk(0, 1, 10), 0);
        due("11: stay", row.chunk(2, 1, 10), 0);
        row.rot(0, 1, 2, 8);
        due("11: in a ring from 3 on", row.scrub(21), 1);
        due("11: 23 mended", row.chunk(3, 23, 10), 1);
        due("11: from 0 on again", row.scrub(2), 1);
        due("11: MENDED", row.count(7), 3);
        due("11: reads also of what stays", row.count(3), reads + 96 + 4 * 26);
        due("11: writes", row.count(0), writes + 3);
        due("11: audit", row.audit(), 0);
        for (int block = 0; block < 72; block++) {
            due("11: all is there", word(row, block, 0), 8 * (block % 6) + block / 6 * 6);
            due("11: all is there", word(row, block, 7), 8 * (block % 6) + block / 6 * 6 + 7);
        }
        row.lose(0);
        due("11: OUTSIDE before STATE", row.scrub(0), OUTSIDE);
        due("11: a member is lost", row.scrub(1), STATE);
        due("11: down first", downRow(0).scrub(0), DOWN);
    }

    /** Rot that keeps the SUM right: 3 more in word 0 is 1 less in word 1. */
    private static ParityRow unevenRow() {
        ParityRow row = new ParityRow(0);
        row.write(0, 2, 4);
        row.drain(1);
        due("12: word 0 from 4 to 7", row.rot(0, 0, 0, 3), 7);
        due("12: word 1 from 5 to 4", row.rot(0, 0, 1, 1), 4);
        due("15: still THERE", row.chunk(0, 0, 10), 1);
        return row;
    }

    private static void scrubMendsParity() {
        ParityRow row = unevenRow();
        due("20: uneven", row.audit(), 1);
        int writes = row.member(2, 2);
        due("11: parity is mended", row.scrub(1), 1);
        due("11: written", row.member(2, 2), writes + 1);
        due("11: datum stays", row.chunk(0, 0, 0), 7);
        due("11: parity", row.chunk(2, 0, 0), 7 ^ 12);
        due("20: even", row.audit(), 0);
        row = new ParityRow(0);
        row.scrub(5);
        row.rot(0, 0, 0, 1);
        row.rot(0, 5, 0, 1);
        row.cut(0, 2);
        due("11: power goes", row.scrub(1), LOST);
        due("11: not MENDED", row.count(7), 0);
        due("11: TORN", row.chunk(0, 5, 9), 1);
        row.start(NONE);
        due("14: scrubbing goes on at 0", row.scrub(1), 1);
        due("14: stripe 0 was mended", row.chunk(0, 0, 10), 1);
        due("14: stripe 5 was not", row.chunk(0, 5, 10), 0);
        due("11: the TORN one is mended", row.scrub(5), 1);
    }

    private static void scrubLeavesTheJournal() {
        ParityRow row = new ParityRow(0);
        row.write(0, 1, 9);
        row.rot(0, 0, 0, 1);
        due("11: mended to what was", row.scrub(1), 1);
        due("11: the chunk", row.chunk(0, 0, 0), 0);
        due("11: the record stays", row.journal(1), 1);
        due("11: no MARK", row.count(2), 0);
        dueWords("11: the journal's", row, 0, 9);
    }

    private static void rot() {
        ParityRow row = new ParityRow(0);
        due("12: member -1", row.rot(-1, 0, 0, 1), UNKNOWN);
        due("12: member 3", row.rot(3, 0, 0, 1), UNKNOWN);
        due("12: stripe -1", row.rot(0, -1, 0, 1), UNKNOWN);
        due("12: stripe 24", row.rot(0, 24, 0, 1), UNKNOWN);
        due("12: i -1", row.rot(0, 0, -1, 1), UNKNOWN);
        due("12: i 8", row.rot(0, 0, 8, 1), UNKNOWN);
        due("12: ordinary", row.rot(2, 23, 7, 12), 12);
        due("12: once more", row.rot(2, 23, 7, -1), ~12);
        due("12: SUM stays", row.chunk(2, 23, 8), 0);
        due("12: not THERE", row.chunk(2, 23, 10), 0);
        due("12: not TORN", row.chunk(2, 23, 9), 0);
        due("12: back", row.rot(2, 23, 7, ~12), 0);
        due("12: THERE", row.chunk(2, 23, 10), 1);
        due("12: mask 0", row.rot(2, 23, 7, 0), 0);
        due("12: no write", row.count(0) + row.member(2, 2), 0);
        due("12: when down", downRow(0).rot(0, 1, 1, 6), 6);
    }

    private static void cut() {
        ParityRow row = new ParityRow(0);
        due("13: n -2", row.cut(-2, 0), OUTSIDE);
        due("13: n 1001", row.cut(1001, 0), OUTSIDE);
        due("13: tear -1", row.cut(0, -1), OUTSIDE);
        due("13: tear 9", row.cut(0, 9), OUTSIDE);
        due("13: NONE, but tear 9", row.cut(NONE, 9), OUTSIDE);
        due("13: refusals set nothing", row.write(0, 1, 1), 1);
        due("13: n 1000", row.cut(1000, 8), 1);
        due("13: the next one", row.cut(0, 8), 1);
        due("13: it stays", row.cut(NONE, 0), 1);
        due("13: it stayed", row.drain(1), 0);
        due("13: down first", downRow(0).cut(-2, 9), DOWN);
        for (int tear = 0; tear <= 8; tear++) {
            row = new ParityRow(0);
            row.write(0, 2, 100);
            row.drain(1);
            int sum = row.chunk(0, 0, 8);
            row.write(0, 2, 200);
            row.cut(0, tear);
            due("13: power goes", row.drain(1), LOST);
            for (int i = 0; i < 8; i++) {
                due("13: tear " + tear + ", word " + i, row.chunk(0, 0, i), (i < tear ? 200 : 100) + i);
            }
            due("13: SUM stays", row.chunk(0, 0, 8), sum);
            due("13: TORN", row.chunk(0, 0, 9), 1);
            due("13: not THERE", row.chunk(0, 0, 10), 0);
            due("14: it is done again", row.start(NONE), 1);
            dueWords("14: done again", row, 0, 200);
            due("14: no more TORN", row.chunk(0, 0, 9), 0);
            due("13: power goes but once", row.write(0, 1, 1), 1);
        }
        row = new ParityRow(0);
        row.cut(1000, 0);
        for (int k = 0; k < 200; k++) {
            due("13: 1000 writes stay", row.write(0, 2, k), 2);
            if (row.count(0) > 980) {
                break;
            }
        }
        int left = 1000 - row.count(0);
        for (int k = 0; k < 20 && row.write(0, 2, k) == 2; k++) {
            left = 1000 - row.count(0);
        }
        due("13: the write behind 1000 others", row.count(0), 1001);
        due("13: there were writes left", left >= 0 ? 1 : 0, 1);
    }

    private static void start() {
        ParityRow row = new ParityRow(0);
        due("14: STATE before OUTSIDE", row.start(-2), STATE);
        row = downRow(0);
        due("14: n -2", row.start(-2), OUTSIDE);
        due("14: n 1001", row.start(1001), OUTSIDE);
        due("14: still down", row.look(0), DOWN);
        due("14: power goes at the first", row.start(0), LOST);
        due("14: at the second", row.start(1), LOST);
        due("14: no record is done again yet", row.count(6), 0);
        due("14: at the MARK", row.start(2), LOST);
        due("14: the record was done again", row.count(6), 1);
        due("14: the MARK stays", row.journal(4), 1);
        due("14: marks", row.count(2), 1);
        due("14: none of it goes behind", row.start(3), 1);
        due("14: done again once more", row.count(6), 2);
        due("14: the MARK", row.journal(4), 2);
        due("14: the MARK's cell", row.journal(3), 4);
        due("14: free", row.journal(0), 32);
        due("14: no records", row.journal(1), 0);
        due("14: next serial", row.journal(2), 2);
        due("14: not DRAINED", row.count(5), 0);
        due("14: of what is done again alone", row.write(0, 1, 1), 1);
        due("14: not down", row.start(NONE), STATE);
    }

    private static void startWithoutRecords() {
        ParityRow row = new ParityRow(0);
        row.cut(0, 5);
        due("14: at the first cell", row.write(0, 1, 7), LOST);
        due("14: at the MARK", row.start(0), LOST);
        due("14: none counted", row.start(NONE), 0);
        due("14: the MARK was written", row.count(2), 2);
        due("14: writes", row.count(0), 3);
        due("14: next serial", row.journal(2), 1);
        due("14: the MARK's serial", row.journal(4), 1);
        row.write(0, 1, 7);
        due("14: the serial is used again", row.record(0, 3), 1);
    }

    private static void startKeepsTheTear() {
        ParityRow row = new ParityRow(0);
        row.write(0, 2, 100);
        row.cut(0, 3);
        row.cut(0, 9);
        due("14: at datum 0", row.drain(1), LOST);
        due("14: once more, at datum 1", row.start(1), LOST);
        due("14: tear as told latest", row.chunk(1, 0, 2), 110);
        due("14: not more", row.chunk(1, 0, 3), 0);
        row.start(NONE);
        dueWords("14: all is there", row, 1, 108);
        row = downRow(0);
        row.start(0);
        due("14: tear 0", row.chunk(0, 0, 0), 0);
        row.start(1);
        row.start(NONE);
        due("14: there", word(row, 0, 0), 5);
    }

    private static void startWithALostMember() {
        ParityRow row = new ParityRow(0);
        row.write(0, 2, 100);
        row.lose(0);
        row.write(2, 1, 50);
        row.cut(0, 0);
        row.drain(1);
        due("14: counted", row.start(NONE), 2);
        due("14: not written to the lost one", row.member(0, 2), 0);
        due("14: still LOST", row.member(0, 0), 1);
        due("14: by the others", row.look(0), 2);
        dueWords("14: by the others", row, 0, 100);
        dueWords("14: of its member", row, 1, 108);
        dueWords("14: of its member", row, 2, 50);
        row.spare();
        row.build(24);
        row.write(0, 2, 300);
        row.cut(0, 0);
        row.drain(1);
        row.start(NONE);
        due("14: ON stays", row.member(0, 0), 0);
    }

    private static void chunk() {
        ParityRow row = new ParityRow(0);
        due("15: member -1", row.chunk(-1, 0, 11), UNKNOWN);
        due("15: member 3", row.chunk(3, 0, 0), UNKNOWN);
        due("15: stripe -1", row.chunk(0, -1, 0), UNKNOWN);
        due("15: stripe 24", row.chunk(0, 24, 11), UNKNOWN);
        due("15: i -1", row.chunk(0, 0, -1), OUTSIDE);
        due("15: i 11", row.chunk(0, 0, 11), OUTSIDE);
        row.write(46, 2, MAX - 3);
        row.drain(1);
        int parity = row.place(46, 2);
        for (int k = 0; k < 2; k++) {
            int m = row.place(46 + k, 1);
            for (int i = 0; i < 8; i++) {
                due("15: word", row.chunk(m, 23, i), MAX - 3 + 8 * k + i);
                due("15: parity", row.chunk(parity, 23, i), (MAX - 3 + i) ^ (MAX + 5 + i));
            }
            due("15: SUM", row.chunk(m, 23, 8), sumOf(chunkOf(row, m, 23)));
            due("15: THERE", row.chunk(m, 23, 10), 1);
        }
        due("15: SUM of the parity", row.chunk(parity, 23, 8), sumOf(chunkOf(row, parity, 23)));
    }

    private static void member() {
        ParityRow row = new ParityRow(0);
        due("16: -1", row.member(-1, 9), UNKNOWN);
        due("16: 3", row.member(3, 0), UNKNOWN);
        due("16: what -1", row.member(0, -1), OUTSIDE);
        due("16: what 3", row.member(2, 3), OUTSIDE);
        due("16: ON", row.member(2, 0), 0);
        due("16: BUILT", row.member(2, 1), 24);
        due("16: none written", row.member(2, 2), 0);
        row.write(0, 1, 1);
        row.drain(1);
        due("16: datum 0", row.member(0, 2), 1);
        due("16: datum 1", row.member(1, 2), 0);
        due("16: parity", row.member(2, 2), 1);
        row = downRow(0);
        due("16: the one at which power went", row.member(0, 2), 1);
    }

    private static void journal() {
        ParityRow row = new ParityRow(1);
        int[] first = {32, 0, 1, 0, 1};
        int[] two = {23, 2, 3, 0, 1};
        int[] down = {32, 0, 0, 4, 2};
        for (int what = 0; what < 5; what++) {
            due("17: at first " + what, row.journal(what), first[what]);
        }
        due("17: -1", row.journal(-1), OUTSIDE);
        due("17: 5", row.journal(5), OUTSIDE);
        row.write(0, 1, 1);
        row.write(0, 2, 1);
        for (int what = 0; what < 5; what++) {
            due("17: two records " + what, row.journal(what), two[what]);
        }
        row.cut(3, 0);
        row.drain(2);
        for (int what = 0; what < 5; what++) {
            due("17: down " + what, row.journal(what), down[what]);
        }
        due("17: down, 5", row.journal(5), OUTSIDE);
        due("18: down", row.record(0, 0), UNKNOWN);
    }

    private static void record() {
        ParityRow row = new ParityRow(3);
        due("18: none", row.record(0, 9), UNKNOWN);
        row.write(8, 5, 1);
        int[][] rows = {{1, 0b11000, 1, 1, 2}, {2, 0b00111, 1, 2, 3}};
        for (int k = 0; k < 2; k++) {
            for (int what = 0; what < 5; what++) {
                due("18: record " + k + ", " + what, row.record(k, what), rows[k][what]);
            }
        }
        due("18: k -1", row.record(-1, 0), UNKNOWN);
        due("18: k 2", row.record(2, 0), UNKNOWN);
        due("18: k MAX", row.record(MAX, 0), UNKNOWN);
        due("18: what -1", row.record(0, -1), OUTSIDE);
        due("18: what 5", row.record(1, 5), OUTSIDE);
        row.drain(1);
        due("18: the oldest now", row.record(0, 3), 2);
    }

    private static void count() {
        ParityRow row = new ParityRow(0);
        due("19: -1", row.count(-1), OUTSIDE);
        due("19: 13", row.count(13), OUTSIDE);
        for (int what = 0; what < 13; what++) {
            due("19: at first " + what, row.count(what), 0);
        }
        row.write(0, 2, 1);
        row.write(2, 1, 1);
        row.drain(1);
        row.lose(2);
        row.write(0, 1, 1);
        row.cut(1, 0);
        row.drain(32);
        row.start(NONE);
        row.spare();
        row.rot(1, 0, 0, 1);
        row.build(24);
        row.rot(1, 0, 0, 1);
        row.scrub(24);
        // 5 + 4 cells, a drain of 3 chunks and the MARK, 3 cells, a drain of 1 and the MARK at which power goes
        // (stripe 1: datum 0 is lost, only its parity is written), 2 chunks again and the MARK,
        // 23 chunks and the MARK, 1 mended.
        int[] due = {5 + 4 + 4 + 3 + 2 + 3 + 24 + 1, 12, 4, 1 + 46 + 72, 3, 1, 2, 1, 1, 1, 1, 0, 1};
        for (int what = 0; what < 13; what++) {
            due("19: in the end " + what, row.count(what), due[what]);
        }
    }

    private static void audit() {
        ParityRow row = unevenRow();
        due("20: one", row.audit(), 1);
        row.rot(0, 23, 0, 3);
        row.rot(0, 23, 1, -1);
        due("20: 3 and -1: the SUM is right", row.chunk(0, 23, 10), 1);
        due("20: two", row.audit(), 2);
        row.rot(1, 23, 0, 1);
        due("20: a chunk is not THERE", row.audit(), 1);
        row.lose(2);
        due("20: a lost member", row.audit(), 0);
        row.spare();
        due("20: a NEW member", row.audit(), 0);
        row = new ParityRow(0);
        row.write(0, 1, 3);
        row.write(1, 1, 2);
        row.drain(2);
        row.rot(0, 0, 0, 3);
        row.rot(0, 0, 1, 1);
        row.rot(1, 0, 0, 7);
        row.rot(1, 0, 1, 1);
        due("20: both SUMS are right", row.chunk(0, 0, 10) + row.chunk(1, 0, 10), 2);
        due("20: uneven in word 0 alone", row.audit(), 1);
        row = unevenRow();
        row.write(2, 1, 1);
        row.cut(0, 0);
        row.drain(1);
        due("20: when down", row.audit(), 1);
    }

    public static void main(String[] args) {
        aNewObject();
        place();
        writeRefusals();
        writeWords();
        waysByCount();
        newestFromJournalIsNoRead();
        waysWithALostMember();
        writeFails();
        writeMakesRoom();
        manySmallRecords();
        writeLosesPower();
        look();
        word();
        drain();
        drainInOrder();
        loseAndSpare();
        build();
        buildDrainsUpToTheLast();
        holes();
        buildLosesPower();
        scrub();
        scrubMendsParity();
        scrubLeavesTheJournal();
        rot();
        cut();
        start();
        startWithoutRecords();
        startKeepsTheTear();
        startWithALostMember();
        chunk();
        member();
        journal();
        record();
        count();
        audit();
        System.out.println(wrong == 0 ? "all answers are as due" : wrong + " answers are not as due");
        if (wrong != 0) {
            System.exit(1);
        }
    }
}
