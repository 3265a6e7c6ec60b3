/** Where an append ends, what is in the cells between, what a write does with leases, and where a piece parts. */
public final class EndsTest {
    private static final Due due = new Due();

    public static void main(String[] args) {
        endIsThatOfThePrimary();
        endIsThatOfTheFirstOneThatIsUp();
        fullIsWhatThePrimarySays();
        nothingIsDoneWithTheFullOne();
        aFullSharedPieceDoesNotPart();
        cellsBetween();
        aLongerCopyIsWrittenInItsMiddle();
        aWrittenCellIsNotWrong();
        otherWrongCellsStayWrong();
        failsWhereOneCopyIsDown();
        doesNotFailWhereNoCopyIsDown();
        theLeaseGoesToTheFirstOneThatIsUp();
        versionsOfAllCopiesRise();
        copiesThatAreDownAreNoneAnyMore();
        partsWhereTheGoodOnesAre();
        partsInTheirOrder();
        partsLikeTheFirstGoodOne();
        partsWithoutALease();
        doesNotPartInOneFile();
        aRefusedWriteLeavesTheLease();
        due.end();
    }

    private static BlockFleet append(BlockFleet x, int file, int numbers) {
        for (int number = 1; number <= numbers; number++) {
            x.append(file, number);
        }
        return x;
    }

    private static BlockFleet fleet(int cells) {
        BlockFleet x = append(Due.fleet(0, 6, 1, 6, 2, 6), 0, cells);
        x.limit(0);
        return x;
    }

    /** The copy on the node 1 has a cell less than the others, and there is no lease. */
    private static BlockFleet unevenFleet(int cells) {
        BlockFleet x = fleet(cells - 1);
        x.up(1, false);
        x.append(0, cells);
        x.up(1, true);
        return x;
    }

    private static BlockFleet down(BlockFleet x, int... nodes) {
        for (int node : nodes) {
            x.up(node, false);
        }
        return x;
    }

    private static void cells(BlockFleet x, int node, int piece, int... wants) {
        due.is(wants.length, "cells of " + piece + " on " + node, () -> x.on(node, piece, 1));
        for (int i = 0; i < wants.length; i++) {
            int cell = i;
            due.is(wants[i], "cell " + cell + " of " + piece + " on " + node, () -> x.cellOn(node, piece, cell));
        }
    }

    // ---- the end

    private static void endIsThatOfThePrimary() {
        BlockFleet x = unevenFleet(2);
        x.put(0, 0, 0, 9);
        due.is(0, "the primary", () -> x.piece(0, 3));
        due.is(2, "append behind the primary's cells", () -> x.append(0, 3));
        cells(x, 0, 0, 9, 2, 3);
        cells(x, 1, 0, 9, -1, 3);
        cells(x, 2, 0, 9, 2, 3);
    }

    private static void endIsThatOfTheFirstOneThatIsUp() {
        BlockFleet x = down(unevenFleet(2), 0);
        due.is(1, "append behind the cells of the node 1", () -> x.append(0, 8));
        cells(x, 1, 0, 1, 8);
        cells(x, 2, 0, 1, 8);
        cells(x, 0, 0, 1, 2);
        BlockFleet y = down(unevenFleet(2), 0, 1);
        due.is(2, "append behind the cells of the node 2", () -> y.append(0, 8));
        cells(y, 2, 0, 1, 2, 8);
        BlockFleet leased = unevenFleet(2);
        leased.put(0, 0, 0, 9);
        down(leased, 0);
        due.is(1, "append with a lease and the primary down", () -> leased.append(0, 8));
        BlockFleet over = unevenFleet(2);
        over.put(0, 0, 0, 9);
        over.pass(10);
        due.is(2, "append when the lease is over and all are up", () -> over.append(0, 8));
    }

    private static void fullIsWhatThePrimarySays() {
        due.is(10, "append where the first has four cells", () -> unevenFleet(4).append(0, 7));
        due.is(3, "append where the first one that is up has three", () -> down(unevenFleet(4), 0).append(0, 7));
        due.is(10, "append where the next one that is up has four", () -> down(unevenFleet(4), 0, 1).append(0, 7));
        due.is(3, "append where the first has three", () -> unevenFleet(3).append(0, 7));
        due.is(2, "append where the first one that is up has two", () -> down(unevenFleet(3), 0).append(0, 7));
        due.is(10, "append where the primary has four", () -> fleet(4).append(0, 7));
        due.is(3, "append where the primary has three", () -> fleet(3).append(0, 7));
        BlockFleet leased = unevenFleet(4);
        leased.put(0, 0, 0, 9);
        due.is(10, "append where the primary has four, another one three", () -> leased.append(0, 7));
        BlockFleet primaryDown = unevenFleet(4);
        primaryDown.put(0, 0, 0, 9);
        down(primaryDown, 0);
        due.is(3, "append where the primary is down, and the next has three", () -> primaryDown.append(0, 7));
        cells(primaryDown, 1, 0, 9, 2, 3, 7);
        cells(primaryDown, 2, 0, 9, 2, 3, 7);
        cells(primaryDown, 0, 0, 9, 2, 3, 4);
    }

    private static void nothingIsDoneWithTheFullOne() {
        BlockFleet x = fleet(4);
        x.pass(10);
        down(x, 1);
        due.is(10, "append behind a full piece", () -> x.append(0, 7));
        due.is(2, "version of the full one", () -> x.piece(0, 0));
        due.is(-1, "its primary", () -> x.piece(0, 3));
        due.copies(x, 0, 0, 1, 2);
        due.copies(x, 1, 0, 2);
        cells(x, 1, 0, 1, 2, 3, 4);
        BlockFleet y = down(fleet(4), 0);
        due.is(10, "append behind a full piece, its primary down", () -> y.append(0, 7));
        due.is(0, "its primary, and its lease, stay", () -> y.piece(0, 3));
        due.is(10, "the end of its lease", () -> y.piece(0, 4));
        due.is(1, "the primary of the new piece", () -> y.piece(1, 3));
        cells(y, 1, 1, 7);
        cells(y, 2, 1, 7);
    }

    private static void aFullSharedPieceDoesNotPart() {
        BlockFleet x = fleet(4);
        x.snapshot(0);
        due.is(10, "append to the snapshot", () -> x.append(1, 7));
        due.is(0, "its first piece, which is shared still", () -> x.pieceAt(1, 0));
        due.is(1, "its second piece", () -> x.pieceAt(1, 1));
        due.is(2, "files of the first", () -> x.piece(0, 5));
        due.is(1, "files of the second", () -> x.piece(1, 5));
        due.is(1, "pieces of the other file", () -> x.pieces(0));
        BlockFleet y = fleet(3);
        y.snapshot(0);
        due.is(3, "append to a snapshot of a piece of three cells", () -> y.append(1, 7));
        due.is(1, "its piece, which has parted", () -> y.pieceAt(1, 0));
        cells(y, 0, 0, 1, 2, 3);
        cells(y, 0, 1, 1, 2, 3, 7);
    }

    // ---- cells

    private static void cellsBetween() {
        BlockFleet none = fleet(1);
        none.append(0, 2);
        cells(none, 1, 0, 1, 2);
        BlockFleet one = unevenFleet(2);
        one.append(0, 3);
        cells(one, 1, 0, 1, -1, 3);
        BlockFleet two = unevenFleet(2);
        two.put(0, 0, 0, 1);
        two.up(1, false);
        due.is(-1, "append with the short copy down", () -> two.append(0, 3));
        two.up(1, true);
        due.is(3, "append of the fourth", () -> two.append(0, 4));
        cells(two, 1, 0, 1, -1, -1, 4);
        cells(two, 0, 0, 1, 2, 3, 4);
        due.is(0, "wrong cells", () -> two.on(1, 0, 2));
        due.is(-1, "read of a cell between", () -> two.read(0, 0, 2, 1));
        due.is(true, "put to a cell between", () -> two.put(0, 0, 1, 9));
        cells(two, 1, 0, 1, 9, -1, 4);
        BlockFleet put = unevenFleet(3);
        due.is(true, "put behind the cells of a short copy", () -> put.put(0, 0, 2, 9));
        cells(put, 1, 0, 1, 2, 9);
        BlockFleet putBeyond = unevenFleet(2);
        putBeyond.append(0, 3);
        putBeyond.append(0, 4);
        due.is(true, "put to the last cell", () -> putBeyond.put(0, 0, 3, 9));
        cells(putBeyond, 1, 0, 1, -1, 3, 9);
        BlockFleet reused = Due.fleet(0, 1, 1, 1, 2, 1);
        append(reused, 0, 4);
        reused.remove(0);
        reused.pass(21);
        int file = reused.file();
        reused.append(file, 5);
        down(reused, 1);
        reused.append(file, 6);
        reused.up(1, true);
        reused.append(file, 7);
        cells(reused, 1, 1, 5, -1, 7);
    }

    private static void aLongerCopyIsWrittenInItsMiddle() {
        BlockFleet x = down(unevenFleet(3), 0);
        due.is(2, "append behind the shorter one", () -> x.append(0, 9));
        cells(x, 2, 0, 1, 2, 9);
        BlockFleet y = fleet(4);
        due.is(true, "put to the first cell", () -> y.put(0, 0, 0, 9));
        cells(y, 0, 0, 9, 2, 3, 4);
        cells(y, 2, 0, 9, 2, 3, 4);
    }

    private static void aWrittenCellIsNotWrong() {
        for (int node = 0; node < 3; node++) {
            for (int cell = 0; cell < 4; cell++) {
                BlockFleet x = fleet(4);
                x.spoil(node, 0, cell);
                int at = node;
                due.is(1 << cell, "wrong on " + node, () -> x.on(at, 0, 2));
                x.put(0, 0, cell, 9);
                due.is(0, "wrong on " + node + " after put", () -> x.on(at, 0, 2));
                int written = cell;
                due.is(9, "the cell", () -> x.cellOn(at, 0, written));
            }
        }
        BlockFleet x = down(unevenFleet(2), 0);
        x.spoil(2, 0, 1);
        due.is(1, "append over the wrong cell of a longer copy", () -> x.append(0, 9));
        due.is(0, "wrong on it", () -> x.on(2, 0, 2));
        due.is(9, "read from it", () -> x.read(0, 0, 1, 2));
        due.copies(x, 0, 1, 2);
    }

    private static void otherWrongCellsStayWrong() {
        BlockFleet x = fleet(4);
        for (int cell = 0; cell < 4; cell++) {
            x.spoil(1, 0, cell);
        }
        x.put(0, 0, 2, 9);
        due.is(11, "wrong after put to the cell 2", () -> x.on(1, 0, 2));
        x.put(0, 0, 0, 9);
        due.is(10, "wrong after put to the cell 0", () -> x.on(1, 0, 2));
        BlockFleet y = fleet(1);
        y.spoil(0, 0, 0);
        y.append(0, 2);
        due.is(1, "wrong on the primary after append", () -> y.on(0, 0, 2));
        down(y, 2);
        y.spoil(2, 0, 0);
        due.is(false, "put, which fails on the node 2", () -> y.put(0, 0, 0, 9));
        due.is(0, "wrong on the primary", () -> y.on(0, 0, 2));
        due.is(1, "wrong on the one that is down", () -> y.on(2, 0, 2));
    }

    // ---- leases

    private static void failsWhereOneCopyIsDown() {
        for (int node = 1; node < 3; node++) {
            BlockFleet x = down(fleet(1), node);
            due.is(-1, "append with the copy " + node + " down", () -> x.append(0, 2));
            for (int other = 0; other < 3; other++) {
                cells(x, other, 0, other == node ? new int[] {1} : new int[] {1, 2});
            }
            BlockFleet y = down(fleet(1), node);
            due.is(false, "put with the copy " + node + " down", () -> y.put(0, 0, 0, 2));
            for (int other = 0; other < 3; other++) {
                cells(y, other, 0, other == node ? 1 : 2);
            }
            due.copies(y, 0, 0, 1, 2);
        }
        BlockFleet both = down(fleet(1), 1, 2);
        due.is(-1, "append with both other copies down", () -> both.append(0, 2));
        cells(both, 0, 0, 1, 2);
        due.copies(both, 0, 0, 1, 2);
        due.is(2, "append again", () -> both.append(0, 3));
        due.copies(both, 0, 0);
    }

    private static void doesNotFailWhereNoCopyIsDown() {
        BlockFleet x = fleet(1);
        x.node(3, 6);
        down(x, 3);
        due.is(1, "append with a node down that has no copy", () -> x.append(0, 2));
        due.is(0, "the primary", () -> x.piece(0, 3));
        BlockFleet one = Due.fleet(0, 6);
        due.is(0, "append to one copy", () -> one.append(0, 1));
        due.is(true, "put to one copy", () -> one.put(0, 0, 0, 2));
        due.is(0, "the primary of one copy", () -> one.piece(0, 3));
        BlockFleet back = down(fleet(1), 1);
        back.up(1, true);
        due.is(1, "append with a copy that is up again", () -> back.append(0, 2));
        due.is(2, "the version", () -> back.piece(0, 0));
    }

    private static void theLeaseGoesToTheFirstOneThatIsUp() {
        for (int first = 0; first < 3; first++) {
            BlockFleet x = fleet(2);
            x.pass(10);
            for (int node = 0; node < first; node++) {
                down(x, node);
            }
            int want = first;
            due.is(true, "put with " + first + " down", () -> x.put(0, 0, 0, 9));
            due.is(want, "the primary", () -> x.piece(0, 3));
            due.is(3 - want, "copies", () -> x.piece(0, 1));
            due.is(3, "the version", () -> x.piece(0, 0));
            due.is(20, "the end of the lease", () -> x.piece(0, 4));
        }
    }

    private static void versionsOfAllCopiesRise() {
        BlockFleet x = fleet(1);
        for (int version = 2; version < 6; version++) {
            for (int node = 0; node < 3; node++) {
                int at = node;
                due.is(version, "version on " + node, () -> x.on(at, 0, 0));
            }
            due.is(version, "version", () -> x.piece(0, 0));
            due.is(3, "good ones", () -> x.piece(0, 2));
            x.pass(10);
            x.put(0, 0, 0, version);
        }
        down(x, 1);
        x.put(0, 0, 0, 7);
        x.put(0, 0, 0, 8);
        due.is(7, "version without the node 1", () -> x.piece(0, 0));
        due.is(7, "version on 2", () -> x.on(2, 0, 0));
        due.is(6, "version on 1", () -> x.on(1, 0, 0));
    }

    private static void copiesThatAreDownAreNoneAnyMore() {
        BlockFleet x = down(fleet(1), 2);
        x.put(0, 0, 0, 5);
        due.copies(x, 0, 0, 1, 2);
        x.put(0, 0, 0, 6);
        due.copies(x, 0, 0, 1);
        x.up(2, true);
        due.copies(x, 0, 0, 1);
        due.is(2, "good ones, without the one that is up again", () -> x.piece(0, 2));
        due.is(true, "put, which does not fail by it", () -> x.put(0, 0, 0, 7));
        due.is(1, "the cell there, which is not written", () -> x.cellOn(2, 0, 0));
        x.pass(1);
        due.is(0, "load, as it was stale", () -> x.load(2));
    }

    // ---- parting

    private static BlockFleet shared(BlockFleet x) {
        x.snapshot(0);
        return x;
    }

    private static void partsWhereTheGoodOnesAre() {
        BlockFleet all = shared(fleet(2));
        due.is(true, "put to a snapshot", () -> all.put(1, 0, 0, 9));
        due.copies(all, 1, 0, 1, 2);
        due.copies(all, 0, 0, 1, 2);
        cells(all, 1, 1, 9, 2);
        cells(all, 1, 0, 1, 2);
        BlockFleet some = down(shared(fleet(2)), 0, 2);
        some.node(3, 6);
        due.is(true, "put with one good copy", () -> some.put(0, 0, 0, 9));
        due.copies(some, 1, 1);
        due.copies(some, 0, 0, 1, 2);
        due.is(1, "the piece of the file that was written", () -> some.pieceAt(0, 0));
        due.is(0, "the piece of the other one", () -> some.pieceAt(1, 0));
        BlockFleet full = shared(append(Due.fleet(0, 2, 1, 1, 2, 2), 0, 2));
        due.is(true, "put where one has no room", () -> full.put(1, 0, 0, 9));
        due.copies(full, 1, 0, 2);
        due.is(1, "load of that one", () -> full.load(1));
        due.is(2, "load of one with room", () -> full.load(2));
    }

    private static void partsInTheirOrder() {
        BlockFleet x = fleet(2);
        x.up(0, false);
        x.pass(3);
        x.up(0, true);
        x.pass(1);
        due.copies(x, 0, 1, 2, 0);
        shared(x);
        x.put(1, 0, 0, 9);
        due.copies(x, 1, 1, 2, 0);
        due.is(1, "the primary", () -> x.piece(1, 3));
    }

    private static void partsLikeTheFirstGoodOne() {
        BlockFleet x = shared(unevenFleet(2));
        x.spoil(0, 0, 1);
        x.spoil(2, 0, 0);
        x.put(1, 0, 0, 9);
        for (int node = 0; node < 3; node++) {
            int at = node;
            cells(x, node, 1, 9, 2);
            due.is(2, "wrong on " + node, () -> x.on(at, 1, 2));
        }
        BlockFleet y = down(shared(unevenFleet(2)), 0);
        y.put(1, 0, 0, 9);
        cells(y, 1, 1, 9);
        cells(y, 2, 1, 9);
        cells(y, 2, 0, 1, 2);
        BlockFleet z = shared(unevenFleet(2));
        z.append(1, 8);
        cells(z, 1, 1, 1, 2, 8);
        cells(z, 1, 0, 1);
    }

    private static void partsWithoutALease() {
        BlockFleet x = shared(fleet(2));
        x.pass(4);
        x.put(1, 0, 0, 9);
        due.is(2, "version of the new one", () -> x.piece(1, 0));
        due.is(2, "its version on a node", () -> x.on(0, 1, 0));
        due.is(14, "the end of its lease", () -> x.piece(1, 4));
        due.is(2, "version of the old one", () -> x.piece(0, 0));
        due.is(10, "the end of its lease", () -> x.piece(0, 4));
        BlockFleet y = fleet(2);
        y.pass(10);
        y.put(0, 0, 0, 5);
        y.pass(10);
        y.put(0, 0, 0, 6);
        shared(y);
        y.put(1, 0, 0, 9);
        due.is(4, "version of the old one", () -> y.piece(0, 0));
        due.is(2, "version of the new one, which began with 1", () -> y.piece(1, 0));
    }

    private static void doesNotPartInOneFile() {
        BlockFleet x = fleet(2);
        x.put(0, 0, 0, 9);
        due.is(0, "the piece of one file", () -> x.pieceAt(0, 0));
        shared(x);
        x.put(1, 0, 0, 9);
        due.is(1, "the piece that parted", () -> x.pieceAt(1, 0));
        x.put(1, 0, 0, 8);
        due.is(1, "that piece, which is in one file", () -> x.pieceAt(1, 0));
        x.put(0, 0, 0, 7);
        due.is(0, "the old piece, which is in one file, too", () -> x.pieceAt(0, 0));
        due.noIndex("a third piece", () -> x.piece(2, 0));
    }

    private static void aRefusedWriteLeavesTheLease() {
        BlockFleet x = down(fleet(2), 1);
        due.noState("put behind the primary's cells, a copy down", () -> x.put(0, 0, 2, 9));
        due.is(0, "the primary", () -> x.piece(0, 3));
        due.is(10, "the end of its lease", () -> x.piece(0, 4));
        down(x, 0, 2);
        due.noState("append with all down", () -> x.append(0, 9));
        due.is(0, "the primary", () -> x.piece(0, 3));
        due.copies(x, 0, 0, 1, 2);
        x.up(0, true);
        due.is(-1, "append with the primary up, which fails on the others", () -> x.append(0, 9));
        due.is(2, "the version", () -> x.piece(0, 0));
    }
}
