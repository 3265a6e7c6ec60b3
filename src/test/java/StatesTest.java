/** Every cause of an IllegalStateException, and what is just not one; a call that throws changes nothing. */
public final class StatesTest {
    private static final Due due = new Due();

    public static void main(String[] args) {
        promise4NothingOfThePiece();
        promise4NotSoManyCells();
        promise9NotThere();
        promise10NotThere();
        promise11NotDeleted();
        promise12And13NotThere();
        promise14NotThere();
        noPlaceWithoutNodes();
        noPlaceWhereAllIsDown();
        noPlaceWhereNothingIsCountedOn();
        noPlaceWithoutRoom();
        noPlaceAmongWhatIsNotKnown();
        noPlaceForAPartedPiece();
        cannotBeWrittenWhereAllIsDown();
        cannotBeWrittenWithoutCopies();
        cannotBeWrittenThoughAnotherPieceWouldFindAPlace();
        cannotBeWrittenWithoutAGoodCopyToPartFrom();
        notSoManyCellsOnThePrimary();
        notSoManyCellsOnThePrimaryToBeFound();
        notSoManyCellsOnASharedPiece();
        due.end();
    }

    private static BlockFleet append(BlockFleet x, int file, int numbers) {
        for (int number = 1; number <= numbers; number++) {
            x.append(file, number);
        }
        return x;
    }

    /** Three nodes in three racks, and one piece with so many cells. */
    private static BlockFleet fleet(int cells) {
        return append(Due.fleet(0, 6, 1, 6, 2, 6), 0, cells);
    }

    /** The same, but the copy on the node 1 has a cell less, and there is no lease. */
    private static BlockFleet unevenFleet(int cells) {
        BlockFleet x = fleet(cells - 1);
        x.up(1, false);
        x.append(0, cells);
        x.up(1, true);
        return x;
    }

    private static BlockFleet down(BlockFleet x, int... nodes) {
        for (int node : nodes) {
            x.up(node, false);
        }
        return x;
    }

    private static BlockFleet removed(BlockFleet x, int secondsAgo) {
        x.remove(0);
        x.pass(secondsAgo);
        return x;
    }

    private static BlockFleet restored(int afterSeconds) {
        BlockFleet x = removed(fleet(2), afterSeconds);
        x.restore(0);
        return x;
    }

    private static void promise4NothingOfThePiece() {
        Due.Maker dropped = () -> {
            BlockFleet x = fleet(2);
            x.spoil(1, 0, 0);
            x.read(0, 0, 0, 1);
            return x;
        };
        due.refusedState("spoil of a copy that was dropped", dropped, x -> x.spoil(1, 0, 1), 0);
        due.is(false, "spoil of another one", () -> dropped.make().spoil(0, 0, 1));
        due.is(false, "spoil of what is not known", () -> {
            BlockFleet x = down(fleet(2), 1);
            x.pass(3);
            return x.spoil(1, 0, 1);
        });
        due.is(false, "spoil of what is of a gone piece", () -> removed(fleet(2), 20).spoil(1, 0, 1));
        due.refusedState("spoil of a gone piece that was dropped", () -> removed(fleet(2), 21),
            x -> x.spoil(1, 0, 1), 0);
    }

    private static void promise4NotSoManyCells() {
        for (int cells = 1; cells <= 4; cells++) {
            int many = cells;
            due.is(false, "spoil of the last cell of " + many, () -> fleet(many).spoil(2, 0, many - 1));
            if (many < 4) {
                due.refusedState("spoil behind the last cell of " + many, () -> fleet(many),
                    x -> x.spoil(2, 0, many), 0);
            }
        }
        due.refusedState("spoil of a cell that only others have", () -> unevenFleet(2), x -> x.spoil(1, 0, 1), 0);
        due.is(false, "spoil of a cell with nothing in it", () -> append(unevenFleet(2), 0, 1).spoil(1, 0, 1));
    }

    private static void promise9NotThere() {
        due.refusedState("snapshot, deleted", () -> removed(fleet(2), 1), x -> x.snapshot(0), 0);
        due.refusedState("snapshot, deleted 19 seconds ago", () -> removed(fleet(2), 19), x -> x.snapshot(0), 0);
        due.refusedState("snapshot, gone", () -> removed(fleet(2), 20), x -> x.snapshot(0), 0);
        due.is(1, "snapshot, taken back", () -> restored(19).snapshot(0));
    }

    private static void promise10NotThere() {
        due.refusedState("remove, deleted", () -> removed(fleet(2), 19), x -> x.remove(0), 0);
        due.refusedState("remove, gone", () -> removed(fleet(2), 20), x -> x.remove(0), 0);
        due.happens("remove, there", () -> fleet(2).remove(0));
        due.happens("remove, taken back", () -> restored(19).remove(0));
    }

    private static void promise11NotDeleted() {
        due.refusedState("restore, there", () -> fleet(2), x -> x.restore(0), 0);
        due.refusedState("restore, taken back", () -> restored(1), x -> x.restore(0), 0);
        due.refusedState("restore, gone", () -> removed(fleet(2), 20), x -> x.restore(0), 0);
        due.happens("restore, just deleted", () -> restored(1));
        due.happens("restore, deleted 19 seconds ago", () -> restored(19));
    }

    private static void promise12And13NotThere() {
        due.refusedState("append, deleted", () -> removed(fleet(2), 1), x -> x.append(0, 7), 0);
        due.refusedState("append, gone", () -> removed(fleet(2), 20), x -> x.append(0, 7), 0);
        due.is(2, "append, taken back", () -> restored(19).append(0, 7));
        due.refusedState("put, deleted", () -> removed(fleet(2), 19), x -> x.put(0, 0, 0, 7), 0);
        due.refusedIndex("put, gone: there is no place", () -> removed(fleet(2), 20), x -> x.put(0, 0, 0, 7), 0);
        due.is(true, "put, taken back", () -> restored(19).put(0, 0, 0, 7));
    }

    private static void promise14NotThere() {
        due.refusedState("read, deleted", () -> removed(fleet(2), 19), x -> x.read(0, 0, 0, 0), 0);
        due.refusedIndex("read, gone: there is no place", () -> removed(fleet(2), 20), x -> x.read(0, 0, 0, 0), 0);
        due.is(1, "read, taken back", () -> restored(19).read(0, 0, 0, 0));
        due.refusedState("read, deleted, a wrong cell", () -> {
            BlockFleet x = fleet(2);
            x.spoil(0, 0, 1);
            x.remove(0);
            return x;
        }, x -> x.read(0, 0, 1, 0), 0);
    }

    private static void noPlaceWithoutNodes() {
        due.refusedState("append without nodes", () -> Due.fleet(), x -> x.append(0, 7), 0);
        due.is(0, "append with one", () -> Due.fleet(3, 1).append(0, 7));
    }

    private static void noPlaceWhereAllIsDown() {
        due.refusedState("append where all is down", () -> down(Due.fleet(0, 6, 1, 6), 0, 1), x -> x.append(0, 7), 0);
        due.is(0, "append where one is up", () -> down(Due.fleet(0, 6, 1, 6), 0).append(0, 7));
    }

    private static void noPlaceWhereNothingIsCountedOn() {
        Due.Maker upAgain = () -> {
            BlockFleet x = down(Due.fleet(0, 6), 0);
            x.pass(3);
            x.up(0, true);
            return x;
        };
        due.refusedState("append where none is counted on", upAgain, x -> x.append(0, 7), 0);
        BlockFleet x = upAgain.make();
        x.pass(1);
        due.is(0, "append a second later", () -> x.append(0, 7));
    }

    private static void noPlaceWithoutRoom() {
        due.refusedState("append without room", () -> append(Due.fleet(0, 1, 1, 1), 0, 4), x -> x.append(0, 7), 0, 1);
        due.is(10, "append with room for one", () -> append(Due.fleet(0, 1, 1, 2), 0, 4).append(0, 7));
        due.is(3, "append without room to a piece that is not full",
            () -> append(Due.fleet(0, 1, 1, 1), 0, 3).append(0, 7));
    }

    /** "Copies in all of a node are what it has, known or not; its room is for these." */
    private static void noPlaceAmongWhatIsNotKnown() {
        Due.Maker stale = () -> {
            BlockFleet x = append(Due.fleet(0, 1, 1, 1), 0, 1);
            x.limit(0);
            x.file();
            x.up(0, false);
            x.put(0, 0, 0, 2);
            x.up(0, true);
            return x;
        };
        due.refusedState("append to a node with a stale copy", stale, x -> x.append(1, 7), 0, 1);
        BlockFleet x = stale.make();
        x.pass(1);
        due.is(0, "append when that was dropped", () -> x.append(1, 7));
        due.copies(x, 1, 0);
    }

    /** Room elsewhere is of no use: the copies of the new piece are where the good ones of the old one are. */
    private static void noPlaceForAPartedPiece() {
        Due.Maker full = () -> {
            BlockFleet x = append(Due.fleet(0, 1, 1, 1, 2, 1), 0, 2);
            x.snapshot(0);
            x.node(3, 6);
            return x;
        };
        due.refusedState("put to a shared piece without room", full, x -> x.put(1, 0, 0, 7), 0, 1);
        due.refusedState("append to a shared piece without room", full, x -> x.append(0, 7), 0, 1);
        Due.Maker withRoom = () -> {
            BlockFleet x = append(Due.fleet(0, 1, 1, 1, 2, 2), 0, 2);
            x.snapshot(0);
            return x;
        };
        due.is(true, "put with room for one", () -> withRoom.make().put(1, 0, 0, 7));
        due.is(2, "append with room for one", () -> withRoom.make().append(0, 7));
        due.refusedState("put where the one with room is down", () -> down(withRoom.make(), 2),
            x -> x.put(1, 0, 0, 7), 0, 1);
        due.is(true, "put where one without room is down", () -> down(withRoom.make(), 0).put(1, 0, 0, 7));
    }

    private static void cannotBeWrittenWhereAllIsDown() {
        due.refusedState("append with a lease and all down", () -> down(fleet(2), 0, 1, 2), x -> x.append(0, 7), 0);
        due.refusedState("put with a lease and all down", () -> down(fleet(2), 0, 1, 2), x -> x.put(0, 0, 0, 7), 0);
        due.refusedState("append without a lease and all down", () -> down(unevenFleet(2), 0, 1, 2),
            x -> x.append(0, 7), 0);
        due.refusedState("put without a lease and all down", () -> down(unevenFleet(2), 0, 1, 2),
            x -> x.put(0, 0, 0, 7), 0);
        due.is(2, "append with the last one up", () -> down(fleet(2), 0, 1).append(0, 7));
        due.is(true, "put with the last one up", () -> down(fleet(2), 0, 1).put(0, 0, 0, 7));
    }

    private static void cannotBeWrittenWithoutCopies() {
        Due.Maker none = () -> {
            BlockFleet x = fleet(2);
            for (int node = 0; node < 3; node++) {
                x.spoil(node, 0, 0);
            }
            x.read(0, 0, 0, 0);
            return x;
        };
        due.refusedState("append without copies", none, x -> x.append(0, 7), 0);
        due.refusedState("put without copies", none, x -> x.put(0, 0, 0, 7), 0);
        Due.Maker unknown = () -> {
            BlockFleet x = down(fleet(2), 0, 1, 2);
            x.pass(3);
            x.up(1, true);
            return x;
        };
        due.refusedState("append with a copy that is not known", unknown, x -> x.append(0, 7), 0);
        due.refusedState("put with a copy that is not known", unknown, x -> x.put(0, 0, 0, 7), 0);
        BlockFleet x = unknown.make();
        x.pass(1);
        due.is(2, "append when it is known", () -> x.append(0, 7));
    }

    private static void cannotBeWrittenThoughAnotherPieceWouldFindAPlace() {
        Due.Maker fullAndDown = () -> {
            BlockFleet x = fleet(4);
            x.node(3, 6);
            return down(x, 0, 1, 2);
        };
        due.refusedState("append behind a full piece that is down", fullAndDown, x -> x.append(0, 7), 0, 1);
        BlockFleet x = fullAndDown.make();
        x.up(1, true);
        due.is(10, "append behind a full piece of which one copy is up", () -> x.append(0, 7));
        Due.Maker fullAndLost = () -> {
            BlockFleet y = fleet(4);
            for (int node = 0; node < 3; node++) {
                y.spoil(node, 0, 3);
            }
            y.read(0, 0, 3, 0);
            return y;
        };
        due.refusedState("append behind a full piece without copies", fullAndLost, y -> y.append(0, 7), 0, 1);
    }

    private static void cannotBeWrittenWithoutAGoodCopyToPartFrom() {
        Due.Maker shared = () -> {
            BlockFleet x = fleet(2);
            x.snapshot(0);
            return down(x, 0, 1, 2);
        };
        due.refusedState("append to a shared piece, all down", shared, x -> x.append(1, 7), 0, 1);
        due.refusedState("put to a shared piece, all down", shared, x -> x.put(0, 0, 0, 7), 0, 1);
        BlockFleet x = shared.make();
        x.up(2, true);
        due.is(true, "put to a shared piece, one up", () -> x.put(0, 0, 0, 7));
        due.copies(x, 1, 2);
        due.copies(x, 0, 0, 1, 2);
    }

    private static void notSoManyCellsOnThePrimary() {
        for (int cells = 1; cells <= 4; cells++) {
            int many = cells;
            due.is(true, "put to the last cell of " + many, () -> fleet(many).put(0, 0, many - 1, 7));
            if (many < 4) {
                due.refusedState("put behind the last cell of " + many, () -> fleet(many),
                    x -> x.put(0, 0, many, 7), 0);
                due.refusedState("put to the last cell of all, of " + many, () -> fleet(many),
                    x -> x.put(0, 0, 3, 7), 0);
            }
        }
    }

    /** "looked at when that is found": the first one that is up. */
    private static void notSoManyCellsOnThePrimaryToBeFound() {
        due.is(true, "put where the first has the cell", () -> unevenFleet(2).put(0, 0, 1, 7));
        due.refusedState("put where the first one that is up has it not", () -> down(unevenFleet(2), 0),
            x -> x.put(0, 0, 1, 7), 0);
        due.is(true, "put to a cell that it has", () -> down(unevenFleet(2), 0).put(0, 0, 0, 7));
        due.is(true, "put where the next one that is up has it", () -> down(unevenFleet(2), 0, 1).put(0, 0, 1, 7));
        Due.Maker leased = () -> {
            BlockFleet x = unevenFleet(2);
            x.put(0, 0, 0, 7);
            return x;
        };
        due.is(true, "put where the primary has it", () -> leased.make().put(0, 0, 1, 7));
        due.refusedState("put where the primary is down, and the next one has it not", () -> down(leased.make(), 0),
            x -> x.put(0, 0, 1, 7), 0);
        due.refusedState("put where the lease is over, and the first one that is up has it not", () -> {
            BlockFleet x = leased.make();
            x.pass(10);
            return down(x, 0);
        }, x -> x.put(0, 0, 1, 7), 0);
    }

    private static void notSoManyCellsOnASharedPiece() {
        Due.Maker shared = () -> {
            BlockFleet x = unevenFleet(2);
            x.snapshot(0);
            return x;
        };
        due.is(true, "put where the first good one has the cell", () -> shared.make().put(1, 0, 1, 7));
        due.refusedState("put where it has it not", shared, x -> x.put(1, 0, 2, 7), 0, 1);
        due.refusedState("put where the next good one has it not", () -> down(shared.make(), 0),
            x -> x.put(1, 0, 1, 7), 0, 1);
        due.is(true, "put where the last good one has it", () -> down(shared.make(), 0, 1).put(1, 0, 1, 7));
    }
}
