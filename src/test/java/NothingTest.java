/** What holds where there is no node, place, copy, good copy or primary: NONE, LOST, 0, and nothing that happens. */
public final class NothingTest {
    private static final Due due = new Due();

    public static void main(String[] args) {
        noneIsReadWhereThereIsNothing();
        noneIsReadWhereItHasNotSoMany();
        noneIsReadThoughAnotherCopyHasIt();
        lostIsReadWithoutCopies();
        lostIsReadWhereAllCopiesAreDown();
        lostIsReadWhenTheLastOneIsDropped();
        lostIsReadThoughACopyIsNotKnown();
        aWrongCellIsOnlySeenWhereItIsRead();
        aWrongCellWithNothingInItIsWrong();
        noneIsOnANodeWithoutThePiece();
        noneIsInCellsBehindTheLast();
        noneIsThePrimaryWithoutALease();
        noneIsAppendedWhereACopyFails();
        zeroIsAnsweredWhereThereIsNothing();
        nothingIsMendedWithoutACopy();
        nothingIsMendedWithoutAGoodCopy();
        nothingIsMendedFromWrongCopies();
        nothingIsMendedWithoutAPlace();
        nothingIsMovedWithoutNodes();
        nothingIsSpoiledByADroppedCopy();
        walkWithoutCopies();
        walkOfRacks();
        walkOfManyWithThreeCopies();
        due.end();
    }

    /** Three nodes in three racks, a piece of so many cells on all of them. */
    private static BlockFleet fleet(int cells) {
        BlockFleet x = Due.fleet(0, 6, 1, 6, 2, 6);
        for (int number = 1; number <= cells; number++) {
            x.append(0, number);
        }
        return x;
    }

    /** The copy on the node 1 has nothing in the cell 1, the others have 2 there; all have 3 in the cell 2. */
    private static BlockFleet paddedFleet() {
        BlockFleet x = fleet(1);
        x.up(1, false);
        x.append(0, 2);
        x.up(1, true);
        x.append(0, 3);
        return x;
    }

    private static BlockFleet fleetWithoutCopies() {
        BlockFleet x = fleet(2);
        for (int node = 0; node < 3; node++) {
            x.spoil(node, 0, 0);
        }
        x.read(0, 0, 0, 0);
        return x;
    }

    private static void down(BlockFleet x, int... nodes) {
        for (int node : nodes) {
            x.up(node, false);
        }
    }

    // ---- what is read

    private static void noneIsReadWhereThereIsNothing() {
        BlockFleet x = paddedFleet();
        due.is(BlockFleet.NONE, "read of a cell with nothing in it", () -> x.read(0, 0, 1, 1));
        due.is(3, "copies: that is not wrong", () -> x.piece(0, 1));
        due.is(1, "the cell before", () -> x.read(0, 0, 0, 1));
        due.is(3, "the cell behind", () -> x.read(0, 0, 2, 1));
        due.is(2, "the cell in another rack", () -> x.read(0, 0, 1, 0));
        due.is(2, "the cell from the first one", () -> x.read(0, 0, 1, 3));
    }

    private static void noneIsReadWhereItHasNotSoMany() {
        for (int cells = 1; cells <= 4; cells++) {
            BlockFleet x = fleet(cells);
            due.is(cells, "read of the last cell of " + cells, () -> x.read(0, 0, x.on(0, 0, 1) - 1, 0));
            for (int cell = cells; cell < 4; cell++) {
                int behind = cell;
                due.is(BlockFleet.NONE, "read of the cell " + cell, () -> x.read(0, 0, behind, 0));
            }
            due.is(3, "copies", () -> x.piece(0, 1));
        }
    }

    private static void noneIsReadThoughAnotherCopyHasIt() {
        BlockFleet x = fleet(1);
        x.up(1, false);
        x.append(0, 2);
        x.up(1, true);
        due.is(1, "cells of the copy in the rack", () -> x.on(1, 0, 1));
        due.is(BlockFleet.NONE, "read in the rack of the one that has not so many", () -> x.read(0, 0, 1, 1));
        due.is(2, "read in another rack", () -> x.read(0, 0, 1, 2));
        due.is(3, "copies", () -> x.piece(0, 1));
    }

    private static void lostIsReadWithoutCopies() {
        BlockFleet x = fleetWithoutCopies();
        for (int cell = 0; cell < 4; cell++) {
            int read = cell;
            due.is(BlockFleet.LOST, "read without copies", () -> x.read(0, 0, read, read));
        }
    }

    private static void lostIsReadWhereAllCopiesAreDown() {
        BlockFleet x = fleet(2);
        down(x, 0, 1);
        due.is(2, "read with the last one up", () -> x.read(0, 0, 1, 0));
        down(x, 2);
        due.is(BlockFleet.LOST, "read with all down", () -> x.read(0, 0, 1, 2));
        due.is(3, "copies, of which none is dropped", () -> x.piece(0, 1));
        x.up(1, true);
        due.is(2, "read with one up again", () -> x.read(0, 0, 1, 2));
    }

    private static void lostIsReadWhenTheLastOneIsDropped() {
        BlockFleet x = fleet(2);
        down(x, 0);
        x.spoil(0, 0, 1);
        x.spoil(1, 0, 1);
        due.is(2, "read with one good copy wrong", () -> x.read(0, 0, 1, 1));
        due.copies(x, 0, 0, 2);
        x.spoil(2, 0, 1);
        due.is(BlockFleet.LOST, "read with the last good copy wrong", () -> x.read(0, 0, 1, 1));
        due.copies(x, 0, 0);
        due.is(2, "what is wrong on the one that is down, which was not read", () -> x.on(0, 0, 2));
        x.up(0, true);
        due.is(1, "read of another cell when that one is up", () -> x.read(0, 0, 0, 1));
        due.is(BlockFleet.LOST, "read of the wrong cell when that one is up", () -> x.read(0, 0, 1, 1));
        due.copies(x, 0);
    }

    private static void lostIsReadThoughACopyIsNotKnown() {
        BlockFleet x = fleet(2);
        down(x, 0, 1, 2);
        x.pass(3);
        x.up(1, true);
        due.is(BlockFleet.LOST, "read with a copy that is not known", () -> x.read(0, 0, 0, 1));
        x.pass(1);
        due.is(1, "read when it is known", () -> x.read(0, 0, 0, 1));
        BlockFleet stale = fleet(2);
        stale.limit(0);
        down(stale, 0);
        stale.put(0, 0, 0, 9);
        stale.up(0, true);
        down(stale, 1, 2);
        due.is(1, "cell of the stale copy", () -> stale.cellOn(0, 0, 0));
        due.is(BlockFleet.LOST, "read with a stale copy", () -> stale.read(0, 0, 0, 0));
    }

    private static void aWrongCellIsOnlySeenWhereItIsRead() {
        for (int wrong = 0; wrong < 4; wrong++) {
            BlockFleet x = fleet(4);
            x.spoil(1, 0, wrong);
            for (int cell = 0; cell < 4; cell++) {
                int read = cell;
                if (cell != wrong) {
                    due.is(cell + 1, "read of the cell " + cell, () -> x.read(0, 0, read, 1));
                }
            }
            due.is(3, "copies", () -> x.piece(0, 1));
            int read = wrong;
            due.is(wrong + 1, "read of the wrong cell " + wrong, () -> x.read(0, 0, read, 0));
            due.is(3, "copies, read in another rack", () -> x.piece(0, 1));
            due.is(wrong + 1, "read of the wrong cell " + wrong, () -> x.read(0, 0, read, 1));
            due.copies(x, 0, 0, 2);
        }
    }

    private static void aWrongCellWithNothingInItIsWrong() {
        BlockFleet x = paddedFleet();
        due.is(false, "spoil of a cell with nothing in it", () -> x.spoil(1, 0, 1));
        due.is(2, "the wrong cells", () -> x.on(1, 0, 2));
        due.is(BlockFleet.NONE, "its number", () -> x.cellOn(1, 0, 1));
        due.is(2, "read of it, from another one", () -> x.read(0, 0, 1, 1));
        due.copies(x, 0, 0, 2);
    }

    // ---- what is asked

    private static void noneIsOnANodeWithoutThePiece() {
        BlockFleet x = fleet(2);
        x.node(3, 6);
        for (int i = 0; i < 3; i++) {
            int what = i;
            due.is(BlockFleet.NONE, "on(3, 0, " + what + ")", () -> x.on(3, 0, what));
        }
        for (int i = 0; i < 4; i++) {
            int cell = i;
            due.is(BlockFleet.NONE, "cellOn(3, 0, " + cell + ")", () -> x.cellOn(3, 0, cell));
        }
        x.limit(0);
        x.spoil(1, 0, 0);
        due.is(2, "on(1, 0, 0) ahead of a drop", () -> x.on(1, 0, 0));
        x.pass(1);
        due.is(BlockFleet.NONE, "on(1, 0, 0) of a copy that was dropped", () -> x.on(1, 0, 0));
        due.is(BlockFleet.NONE, "on(1, 0, 2) of a copy that was dropped", () -> x.on(1, 0, 2));
        due.is(BlockFleet.NONE, "cellOn(1, 0, 0) of a copy that was dropped", () -> x.cellOn(1, 0, 0));
        down(x, 0);
        x.pass(3);
        due.is(2, "on(0, 0, 1) of what is not known", () -> x.on(0, 0, 1));
        due.is(0, "on(0, 0, 2) of what is not known", () -> x.on(0, 0, 2));
        due.is(2, "cellOn(0, 0, 1) of what is not known", () -> x.cellOn(0, 0, 1));
    }

    private static void noneIsInCellsBehindTheLast() {
        for (int cells = 1; cells <= 4; cells++) {
            BlockFleet x = fleet(cells);
            for (int i = 0; i < 4; i++) {
                int cell = i;
                due.is(cell < cells ? cell + 1 : BlockFleet.NONE, "cell " + cell + " of " + cells,
                    () -> x.cellOn(0, 0, cell));
            }
            due.is(cells, "how many cells", () -> x.on(0, 0, 1));
            due.is(0, "no wrong cells", () -> x.on(0, 0, 2));
        }
        BlockFleet x = paddedFleet();
        due.is(BlockFleet.NONE, "a cell with nothing in it", () -> x.cellOn(1, 0, 1));
        due.is(3, "how many cells, that one counted", () -> x.on(1, 0, 1));
    }

    private static void hasNoLease(BlockFleet x, String told) {
        due.is(BlockFleet.NONE, "the primary: " + told, () -> x.piece(0, 3));
        due.is(BlockFleet.NONE, "the end of the lease: " + told, () -> x.piece(0, 4));
    }

    private static void noneIsThePrimaryWithoutALease() {
        BlockFleet over = fleet(2);
        over.pass(10);
        hasNoLease(over, "it is over");
        BlockFleet failed = fleet(2);
        down(failed, 2);
        failed.append(0, 3);
        hasNoLease(failed, "a write failed");
        BlockFleet read = fleet(2);
        read.spoil(0, 0, 0);
        read.read(0, 0, 0, 0);
        hasNoLease(read, "the primary's copy was dropped by reading");
        BlockFleet looked = fleet(2);
        looked.limit(0);
        looked.spoil(0, 0, 0);
        looked.pass(1);
        hasNoLease(looked, "the primary's copy was dropped by looking");
        BlockFleet uncounted = fleet(2);
        down(uncounted, 0);
        due.is(0, "the primary that is down", () -> uncounted.piece(0, 3));
        uncounted.pass(3);
        hasNoLease(uncounted, "the primary is not counted on");
        BlockFleet lost = fleetWithoutCopies();
        hasNoLease(lost, "no copy is left");
        BlockFleet held = fleet(2);
        held.limit(0);
        held.spoil(1, 0, 0);
        held.pass(1);
        due.copies(held, 0, 0, 2);
        due.is(0, "the primary when another copy was dropped", () -> held.piece(0, 3));
        due.is(10, "the end when another copy was dropped", () -> held.piece(0, 4));
    }

    private static void noneIsAppendedWhereACopyFails() {
        BlockFleet x = fleet(2);
        down(x, 1);
        due.is(BlockFleet.NONE, "append with a copy down", () -> x.append(0, 3));
        due.is(3, "what was written stays", () -> x.cellOn(0, 0, 2));
        due.is(3, "cells of the primary", () -> x.on(0, 0, 1));
        due.is(2, "cells of the one that is down", () -> x.on(1, 0, 1));
        due.is(1, "pieces", () -> x.pieces(0));
        due.is(3, "append again, behind it", () -> x.append(0, 3));
        due.is(10, "append of the next", () -> x.append(0, 5));
        BlockFleet y = fleet(2);
        due.is(2, "append with all copies up", () -> y.append(0, 3));
    }

    private static void zeroIsAnsweredWhereThereIsNothing() {
        BlockFleet x = Due.fleet(0, 6);
        due.is(0, "load of a new node", () -> x.load(0));
        due.is(0, "pieces of a new file", () -> x.pieces(0));
        x.append(0, 0);
        due.is(1, "load", () -> x.load(0));
        due.is(0, "the number 0", () -> x.cellOn(0, 0, 0));
        due.is(0, "the number 0, read", () -> x.read(0, 0, 0, 0));
        x.up(0, false);
        due.is(0, "good copies", () -> x.piece(0, 2));
        due.is(1, "copies", () -> x.piece(0, 1));
        x.pass(3);
        due.is(0, "copies, later", () -> x.piece(0, 1));
        x.remove(0);
        x.pass(20);
        due.is(0, "files", () -> x.piece(0, 5));
        due.is(0, "pieces of a gone file", () -> x.pieces(0));
    }

    // ---- a second

    private static void nothingIsMendedWithoutACopy() {
        BlockFleet x = fleetWithoutCopies();
        x.limit(3);
        x.pass(3);
        due.copies(x, 0);
        due.is(0, "load", () -> x.load(0));
    }

    private static void nothingIsMendedWithoutAGoodCopy() {
        BlockFleet x = fleet(2);
        x.node(3, 6);
        x.spoil(2, 0, 0);
        x.read(0, 0, 0, 2);
        down(x, 0, 1);
        x.limit(3);
        x.pass(2);
        due.copies(x, 0, 0, 1);
        x.up(1, true);
        x.pass(1);
        // The node 0 is not counted on any more: one copy is left, and one is mended.
        due.copies(x, 0, 1, 2);
    }

    private static void nothingIsMendedFromWrongCopies() {
        for (int cell = 0; cell < 4; cell++) {
            BlockFleet x = Due.fleet(0, 6);
            x.append(0, 1);
            int file = x.file();
            for (int number = 0; number < 4; number++) {
                x.append(file, number);
            }
            x.limit(3);
            x.spoil(0, 1, cell);
            x.node(1, 6);
            // The node 0 looks at the piece 0 first, so that the wrong one stays for this second.
            x.pass(1);
            due.copies(x, 0, 0, 1);
            due.copies(x, 1, 0);
            x.pass(1);
            due.copies(x, 1);
            due.is(1, "lost, with the cell " + cell + " wrong", () -> x.walk(0));
        }
    }

    private static void nothingIsMendedWithoutAPlace() {
        BlockFleet x = Due.fleet(0, 6, 1, 1);
        x.append(0, 1);
        x.append(x.file(), 2);
        x.limit(3);
        x.pass(1);
        due.copies(x, 0, 0, 1);
        due.copies(x, 1, 0);
        x.node(1, 6);
        x.up(2, false);
        x.pass(1);
        due.copies(x, 0, 0, 1);
        due.copies(x, 1, 0);
        x.up(2, true);
        x.pass(1);
        due.copies(x, 0, 0, 1, 2);
        due.copies(x, 1, 0, 2);
    }

    private static void nothingIsMovedWithoutNodes() {
        BlockFleet one = Due.fleet(0, 6);
        one.append(0, 1);
        one.append(one.file(), 1);
        one.balance(true);
        one.pass(1);
        due.is(2, "load of the only node", () -> one.load(0));
        one.up(0, false);
        due.is(2, "pass where none is up", () -> one.pass(1));
        one.pass(2);
        due.is(2, "load of what is not known", () -> one.load(0));
        due.is(5, "pass where none is counted on", () -> one.pass(1));
        one.up(0, true);
        one.pass(1);
        due.copies(one, 0, 0);
        due.copies(one, 1, 0);
    }

    /** A place that was wrong, or had more cells, and is used again begins anew. */
    private static void nothingIsSpoiledByADroppedCopy() {
        BlockFleet x = Due.fleet(0, 1);
        for (int number = 1; number <= 4; number++) {
            x.append(0, number);
        }
        x.spoil(0, 0, 0);
        x.spoil(0, 0, 1);
        x.read(0, 0, 0, 0);
        due.is(0, "load", () -> x.load(0));
        x.append(x.file(), 5);
        due.is(1, "cells of the next piece", () -> x.on(0, 1, 1));
        due.is(0, "its wrong cells", () -> x.on(0, 1, 2));
        due.is(5, "its first cell", () -> x.cellOn(0, 1, 0));
        due.is(BlockFleet.NONE, "its second cell", () -> x.cellOn(0, 1, 1));
        due.is(2, "its version", () -> x.on(0, 1, 0));
        due.is(BlockFleet.NONE, "the version of the dropped one", () -> x.on(0, 0, 0));
        due.is(1, "append behind it", () -> x.append(1, 6));
        due.is(0, "its wrong cells", () -> x.on(0, 1, 2));
    }

    // ---- walk

    private static void walks(BlockFleet x, int lost, int few, int many, int misplaced) {
        due.is(lost, "walk(0), lost", () -> x.walk(0));
        due.is(few, "walk(1), few", () -> x.walk(1));
        due.is(many, "walk(2), many", () -> x.walk(2));
        due.is(misplaced, "walk(3), misplaced", () -> x.walk(3));
    }

    private static void walkWithoutCopies() {
        BlockFleet x = fleetWithoutCopies();
        walks(x, 1, 1, 0, 0);
        x.remove(0);
        walks(x, 1, 1, 0, 0);
        x.pass(19);
        walks(x, 1, 1, 0, 0);
        x.pass(1);
        walks(x, 0, 0, 0, 0);
        BlockFleet down = fleet(2);
        walks(down, 0, 0, 0, 0);
        down(down, 0, 1);
        walks(down, 0, 0, 0, 0);
        down(down, 2);
        walks(down, 1, 0, 0, 0);
    }

    /** "misplaced ones, with 2 copies or more, all in one rack" */
    private static void walkOfRacks() {
        int[][] racks = {{0}, {0, 0}, {0, 1}, {1, 0}, {0, 0, 0}, {0, 0, 1}, {0, 1, 0}, {1, 0, 0}, {3, 3, 3}, {0, 1, 2}};
        int[] wants = {0, 1, 0, 0, 1, 0, 0, 0, 1, 0};
        for (int i = 0; i < racks.length; i++) {
            BlockFleet x = new BlockFleet();
            for (int rack : racks[i]) {
                x.node(rack, 6);
            }
            x.append(x.file(), 1);
            walks(x, 0, racks[i].length < 3 ? 1 : 0, 0, wants[i]);
        }
        BlockFleet x = fleet(1);
        x.append(0, 2);
        x.append(x.file(), 1);
        x.limit(0);
        x.spoil(0, 0, 0);
        x.spoil(1, 0, 0);
        x.read(0, 0, 0, 0);
        walks(x, 0, 1, 0, 0);
    }

    private static void walkOfManyWithThreeCopies() {
        BlockFleet x = Due.fleet(0, 6, 1, 6, 2, 6, 3, 6);
        x.append(0, 1);
        x.pass(5);
        due.copies(x, 0, 0, 1, 2);
        walks(x, 0, 0, 0, 0);
        x.up(0, false);
        x.pass(3);
        due.copies(x, 0, 1, 2, 3);
        x.up(0, true);
        walks(x, 0, 0, 0, 0);
        x.pass(1);
        walks(x, 0, 0, 0, 0);
        due.copies(x, 0, 1, 2, 3);
    }
}
