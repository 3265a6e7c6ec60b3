/**
 * The range of every argument, on both sides, and which exception counts if several apply. Every refused call
 * is looked at twice: how it fails, and that it changes nothing.
 */
public final class RangesTest {
    private static final int LEAST = Integer.MIN_VALUE;
    private static final int MOST = Integer.MAX_VALUE;
    private static final Due due = new Due();

    interface With {
        void happen(BlockFleet x, int value);
    }

    public static void main(String[] args) {
        promise2Rack();
        promise2Room();
        promise2Order();
        promise3Node();
        promise4NodePieceCell();
        promise4Order();
        promise5Many();
        promise7Seconds();
        promise7Order();
        promises9To11File();
        promise9Order();
        promise12File();
        promise12Number();
        promise12Order();
        promise13FilePlaceCell();
        promise13Number();
        promise13Order();
        promise14FilePlaceCellRack();
        promise14Order();
        promises15And16File();
        promise17FilePlace();
        promise18PieceWhat();
        promise18Order();
        promise19PiecePlace();
        promise20NodePieceWhat();
        promise20Order();
        promise21NodePieceCell();
        promises22And23Node();
        promise24What();
        due.end();
    }

    /** Two nodes, two files: the first has two pieces, the second of these with two cells, the other one has none. */
    private static BlockFleet fleet() {
        BlockFleet x = Due.fleet(0, 6, 1, 6);
        x.file();
        for (int number = 1; number <= 6; number++) {
            x.append(0, number);
        }
        return x;
    }

    private static BlockFleet fleetOfEightNodes() {
        BlockFleet x = fleet();
        for (int i = 2; i < 8; i++) {
            x.node(2, 1);
        }
        return x;
    }

    private static BlockFleet fleetAtTheEnd() {
        BlockFleet x = fleet();
        for (int i = 0; i < 29; i++) {
            x.pass(100);
        }
        x.pass(99);
        return x;
    }

    private static BlockFleet fleetOfTwentyFiles() {
        BlockFleet x = fleet();
        for (int i = 2; i < 20; i++) {
            x.file();
        }
        return x;
    }

    private static BlockFleet fleetWithADeletedFile() {
        BlockFleet x = fleet();
        x.remove(0);
        return x;
    }

    private static BlockFleet fleetThatIsDown() {
        BlockFleet x = fleet();
        x.up(0, false);
        x.up(1, false);
        return x;
    }

    private static void refusesIndex(String told, With with, int... values) {
        for (int value : values) {
            due.refusedIndex(told + " " + value, RangesTest::fleet, x -> with.happen(x, value), 0, 1);
        }
    }

    private static void refusesArgument(String told, With with, int... values) {
        for (int value : values) {
            due.refusedArgument(told + " " + value, RangesTest::fleet, x -> with.happen(x, value), 0, 1);
        }
    }

    private static void takes(String told, With with, int... values) {
        for (int value : values) {
            BlockFleet x = fleet();
            due.happens(told + " " + value, () -> with.happen(x, value));
        }
    }

    // ---- nodes

    private static void promise2Rack() {
        refusesIndex("node in the rack", (x, rack) -> x.node(rack, 6), -1, 4, LEAST, MOST);
        takes("node in the rack", (x, rack) -> x.node(rack, 6), 0, 1, 2, 3);
    }

    private static void promise2Room() {
        refusesArgument("node with room", (x, room) -> x.node(0, room), 0, 13, -1, LEAST, MOST);
        takes("node with room", (x, room) -> x.node(0, room), 1, 2, 11, 12);
    }

    private static void promise2Order() {
        due.refusedIndex("node(4, 0)", RangesTest::fleet, x -> x.node(4, 0));
        due.refusedIndex("a ninth node(4, 0)", RangesTest::fleetOfEightNodes, x -> x.node(4, 0));
        due.refusedIndex("a ninth node(-1, 1)", RangesTest::fleetOfEightNodes, x -> x.node(-1, 1));
        due.refusedArgument("a ninth node(0, 0)", RangesTest::fleetOfEightNodes, x -> x.node(0, 0));
        due.refusedArgument("a ninth node(0, 13)", RangesTest::fleetOfEightNodes, x -> x.node(0, 13));
        due.refusedState("a ninth node(0, 1)", RangesTest::fleetOfEightNodes, x -> x.node(0, 1));
    }

    private static void promise3Node() {
        refusesIndex("up, node", (x, node) -> x.up(node, false), -1, 2, LEAST, MOST);
        refusesIndex("up again, node", (x, node) -> x.up(node, true), -1, 2);
        takes("up, node", (x, node) -> x.up(node, false), 0, 1);
    }

    private static void promise4NodePieceCell() {
        refusesIndex("spoil, node", (x, node) -> x.spoil(node, 0, 0), -1, 2, LEAST, MOST);
        takes("spoil, node", (x, node) -> x.spoil(node, 0, 0), 0, 1);
        refusesIndex("spoil, piece", (x, piece) -> x.spoil(0, piece, 0), -1, 2, LEAST, MOST);
        takes("spoil, piece", (x, piece) -> x.spoil(0, piece, 0), 0, 1);
        refusesIndex("spoil, cell", (x, cell) -> x.spoil(0, 0, cell), -1, 4, LEAST, MOST);
        takes("spoil, cell", (x, cell) -> x.spoil(0, 0, cell), 0, 1, 2, 3);
    }

    private static void promise4Order() {
        Due.Maker withAnEmptyNode = () -> {
            BlockFleet x = fleet();
            x.node(2, 1);
            return x;
        };
        due.refusedIndex("spoil(3, 0, 3), no node", withAnEmptyNode, x -> x.spoil(3, 0, 3));
        due.refusedIndex("spoil(2, 2, 0), no piece", withAnEmptyNode, x -> x.spoil(2, 2, 0));
        due.refusedIndex("spoil(2, 0, 4), no cell", withAnEmptyNode, x -> x.spoil(2, 0, 4));
        due.refusedIndex("spoil(2, 0, -1), no cell", withAnEmptyNode, x -> x.spoil(2, 0, -1));
        due.refusedState("spoil(2, 0, 0), nothing of the piece", withAnEmptyNode, x -> x.spoil(2, 0, 0), 0, 1);
        due.refusedState("spoil(0, 1, 2), not so many", withAnEmptyNode, x -> x.spoil(0, 1, 2), 0, 1);
    }

    private static void promise5Many() {
        refusesArgument("limit", (x, many) -> x.limit(many), -1, 4, LEAST, MOST);
        takes("limit", (x, many) -> x.limit(many), 0, 1, 2, 3);
    }

    private static void promise7Seconds() {
        refusesArgument("pass", (x, seconds) -> x.pass(seconds), 0, 101, -1, LEAST, MOST);
        for (int seconds : new int[] {1, 2, 99, 100}) {
            BlockFleet x = fleet();
            due.is(seconds, "pass(" + seconds + ")", () -> x.pass(seconds));
        }
    }

    private static void promise7Order() {
        due.refusedArgument("pass(0) at 2999", RangesTest::fleetAtTheEnd, x -> x.pass(0));
        due.refusedArgument("pass(101) at 2999", RangesTest::fleetAtTheEnd, x -> x.pass(101));
        due.refusedArgument("pass of the most at 2999", RangesTest::fleetAtTheEnd, x -> x.pass(MOST));
        due.refusedState("pass(2) at 2999", RangesTest::fleetAtTheEnd, x -> x.pass(2));
        due.refusedState("pass(100) at 2999", RangesTest::fleetAtTheEnd, x -> x.pass(100));
    }

    // ---- files

    private static void promises9To11File() {
        refusesIndex("snapshot, file", (x, file) -> x.snapshot(file), -1, 2, LEAST, MOST);
        takes("snapshot, file", (x, file) -> x.snapshot(file), 0, 1);
        refusesIndex("remove, file", (x, file) -> x.remove(file), -1, 2, LEAST, MOST);
        takes("remove, file", (x, file) -> x.remove(file), 0, 1);
        refusesIndex("restore, file", (x, file) -> x.restore(file), -1, 2, LEAST, MOST);
        takes("remove and restore, file", (x, file) -> {
            x.remove(file);
            x.restore(file);
        }, 0, 1);
    }

    private static void promise9Order() {
        due.refusedIndex("snapshot(20) with 20 files", RangesTest::fleetOfTwentyFiles, x -> x.snapshot(20));
        due.refusedIndex("snapshot(-1) with 20 files", RangesTest::fleetOfTwentyFiles, x -> x.snapshot(-1));
        due.refusedState("snapshot(19) with 20 files", RangesTest::fleetOfTwentyFiles, x -> x.snapshot(19));
    }

    private static void promise12File() {
        refusesIndex("append, file", (x, file) -> x.append(file, 7), -1, 2, LEAST, MOST);
        takes("append, file", (x, file) -> x.append(file, 7), 0, 1);
    }

    private static void promise12Number() {
        refusesArgument("append, number", (x, number) -> x.append(0, number), -1, 1000, LEAST, MOST);
        for (int number : new int[] {0, 1, 998, 999}) {
            BlockFleet x = fleet();
            due.is(12, "append of " + number, () -> x.append(0, number));
            due.is(number, "the number appended", () -> x.cellOn(0, 1, 2));
            due.is(number, "the number read", () -> x.read(0, 1, 2, 1));
        }
    }

    private static void promise12Order() {
        due.refusedIndex("append(2, 1000), no file", RangesTest::fleet, x -> x.append(2, 1000));
        due.refusedIndex("append(-1, -1), no file", RangesTest::fleet, x -> x.append(-1, -1));
        due.refusedArgument("append of 1000 to a deleted file", RangesTest::fleetWithADeletedFile,
            x -> x.append(0, 1000), 0, 1);
        due.refusedArgument("append of -1 where all is down", RangesTest::fleetThatIsDown, x -> x.append(0, -1), 0, 1);
        due.refusedState("append to a deleted file", RangesTest::fleetWithADeletedFile, x -> x.append(0, 1), 0, 1);
        due.refusedState("append where all is down", RangesTest::fleetThatIsDown, x -> x.append(0, 1), 0, 1);
    }

    private static void promise13FilePlaceCell() {
        refusesIndex("put, file", (x, file) -> x.put(file, 0, 0, 7), -1, 2, LEAST, MOST);
        refusesIndex("put, file without pieces", (x, place) -> x.put(1, place, 0, 7), 0);
        refusesIndex("put, place", (x, place) -> x.put(0, place, 0, 7), -1, 2, LEAST, MOST);
        takes("put, place", (x, place) -> x.put(0, place, 0, 7), 0, 1);
        refusesIndex("put, cell", (x, cell) -> x.put(0, 0, cell, 7), -1, 4, LEAST, MOST);
        takes("put, cell", (x, cell) -> x.put(0, 0, cell, 7), 0, 1, 2, 3);
    }

    private static void promise13Number() {
        refusesArgument("put, number", (x, number) -> x.put(0, 0, 0, number), -1, 1000, LEAST, MOST);
        for (int number : new int[] {0, 1, 998, 999}) {
            BlockFleet x = fleet();
            due.is(true, "put of " + number, () -> x.put(0, 0, 3, number));
            due.is(number, "the number put", () -> x.cellOn(1, 0, 3));
        }
    }

    private static void promise13Order() {
        due.refusedIndex("put(2, 0, 0, 1000), no file", RangesTest::fleet, x -> x.put(2, 0, 0, 1000));
        due.refusedIndex("put(0, 2, 0, 1000), no place", RangesTest::fleet, x -> x.put(0, 2, 0, 1000));
        due.refusedIndex("put(0, 0, 4, 1000), no cell", RangesTest::fleet, x -> x.put(0, 0, 4, 1000));
        due.refusedIndex("put to no place of a deleted file", RangesTest::fleetWithADeletedFile,
            x -> x.put(0, 2, 0, 1));
        due.refusedIndex("put to no cell of a deleted file", RangesTest::fleetWithADeletedFile,
            x -> x.put(0, 0, 4, 1));
        due.refusedArgument("put of 1000 to a deleted file", RangesTest::fleetWithADeletedFile,
            x -> x.put(0, 0, 0, 1000), 0, 1);
        due.refusedArgument("put of 1000 behind the primary's cells", RangesTest::fleet,
            x -> x.put(0, 1, 2, 1000), 0, 1);
        due.refusedArgument("put of -1 where all is down", RangesTest::fleetThatIsDown,
            x -> x.put(0, 0, 0, -1), 0, 1);
        due.refusedState("put to a deleted file", RangesTest::fleetWithADeletedFile, x -> x.put(0, 0, 0, 1), 0, 1);
        due.refusedState("put behind the primary's cells", RangesTest::fleet, x -> x.put(0, 1, 2, 1), 0, 1);
        due.refusedState("put where all is down", RangesTest::fleetThatIsDown, x -> x.put(0, 0, 0, 1), 0, 1);
    }

    private static void promise14FilePlaceCellRack() {
        refusesIndex("read, file", (x, file) -> x.read(file, 0, 0, 0), -1, 2, LEAST, MOST);
        refusesIndex("read, file without pieces", (x, place) -> x.read(1, place, 0, 0), 0);
        refusesIndex("read, place", (x, place) -> x.read(0, place, 0, 0), -1, 2, LEAST, MOST);
        takes("read, place", (x, place) -> x.read(0, place, 0, 0), 0, 1);
        refusesIndex("read, cell", (x, cell) -> x.read(0, 0, cell, 0), -1, 4, LEAST, MOST);
        takes("read, cell", (x, cell) -> x.read(0, 0, cell, 0), 0, 1, 2, 3);
        refusesIndex("read, rack", (x, rack) -> x.read(0, 0, 0, rack), -1, 4, LEAST, MOST);
        takes("read, rack", (x, rack) -> x.read(0, 0, 0, rack), 0, 1, 2, 3);
    }

    private static void promise14Order() {
        due.refusedIndex("read of no place, deleted", RangesTest::fleetWithADeletedFile, x -> x.read(0, 2, 0, 0));
        due.refusedIndex("read of no cell, deleted", RangesTest::fleetWithADeletedFile, x -> x.read(0, 0, 4, 0));
        due.refusedIndex("read in no rack, deleted", RangesTest::fleetWithADeletedFile, x -> x.read(0, 0, 0, 4));
        due.refusedState("read, deleted", RangesTest::fleetWithADeletedFile, x -> x.read(0, 0, 0, 3), 0, 1);
        due.refusedIndex("read in no rack where all is down", RangesTest::fleetThatIsDown, x -> x.read(0, 0, 0, -1));
    }

    // ---- what is asked

    private static void promises15And16File() {
        refusesIndex("state, file", (x, file) -> x.state(file), -1, 2, LEAST, MOST);
        takes("state, file", (x, file) -> x.state(file), 0, 1);
        refusesIndex("pieces, file", (x, file) -> x.pieces(file), -1, 2, LEAST, MOST);
        takes("pieces, file", (x, file) -> x.pieces(file), 0, 1);
    }

    private static void promise17FilePlace() {
        refusesIndex("pieceAt, file", (x, file) -> x.pieceAt(file, 0), -1, 2, LEAST, MOST);
        refusesIndex("pieceAt, place", (x, place) -> x.pieceAt(0, place), -1, 2, LEAST, MOST);
        takes("pieceAt, place", (x, place) -> x.pieceAt(0, place), 0, 1);
        refusesIndex("pieceAt, file without pieces", (x, place) -> x.pieceAt(1, place), 0);
    }

    private static void promise18PieceWhat() {
        refusesIndex("piece", (x, piece) -> x.piece(piece, 0), -1, 2, LEAST, MOST);
        takes("piece", (x, piece) -> x.piece(piece, 0), 0, 1);
        refusesArgument("piece, what", (x, what) -> x.piece(0, what), -1, 6, LEAST, MOST);
        takes("piece, what", (x, what) -> x.piece(0, what), 0, 1, 2, 3, 4, 5);
    }

    private static void promise18Order() {
        due.refusedIndex("piece(2, 6), no piece", RangesTest::fleet, x -> x.piece(2, 6));
        due.refusedIndex("piece(-1, -1), no piece", RangesTest::fleet, x -> x.piece(-1, -1));
    }

    private static void promise19PiecePlace() {
        refusesIndex("copyAt, piece", (x, piece) -> x.copyAt(piece, 0), -1, 2, LEAST, MOST);
        takes("copyAt, piece", (x, piece) -> x.copyAt(piece, 0), 0, 1);
        refusesIndex("copyAt, place", (x, place) -> x.copyAt(0, place), -1, 2, LEAST, MOST);
        takes("copyAt, place", (x, place) -> x.copyAt(0, place), 0, 1);
    }

    private static void promise20NodePieceWhat() {
        refusesIndex("on, node", (x, node) -> x.on(node, 0, 0), -1, 2, LEAST, MOST);
        takes("on, node", (x, node) -> x.on(node, 0, 0), 0, 1);
        refusesIndex("on, piece", (x, piece) -> x.on(0, piece, 0), -1, 2, LEAST, MOST);
        takes("on, piece", (x, piece) -> x.on(0, piece, 0), 0, 1);
        refusesArgument("on, what", (x, what) -> x.on(0, 0, what), -1, 3, LEAST, MOST);
        takes("on, what", (x, what) -> x.on(0, 0, what), 0, 1, 2);
    }

    private static void promise20Order() {
        due.refusedIndex("on(2, 0, 3), no node", RangesTest::fleet, x -> x.on(2, 0, 3));
        due.refusedIndex("on(0, 2, -1), no piece", RangesTest::fleet, x -> x.on(0, 2, -1));
        Due.Maker withAnEmptyNode = () -> {
            BlockFleet x = fleet();
            x.node(2, 1);
            return x;
        };
        due.refusedArgument("on(2, 0, 3), nothing of the piece", withAnEmptyNode, x -> x.on(2, 0, 3));
        due.refusedArgument("on(2, 0, -1), nothing of the piece", withAnEmptyNode, x -> x.on(2, 0, -1));
    }

    private static void promise21NodePieceCell() {
        refusesIndex("cellOn, node", (x, node) -> x.cellOn(node, 0, 0), -1, 2, LEAST, MOST);
        takes("cellOn, node", (x, node) -> x.cellOn(node, 0, 0), 0, 1);
        refusesIndex("cellOn, piece", (x, piece) -> x.cellOn(0, piece, 0), -1, 2, LEAST, MOST);
        takes("cellOn, piece", (x, piece) -> x.cellOn(0, piece, 0), 0, 1);
        refusesIndex("cellOn, cell", (x, cell) -> x.cellOn(0, 1, cell), -1, 4, LEAST, MOST);
        takes("cellOn, cell", (x, cell) -> x.cellOn(0, 1, cell), 0, 1, 2, 3);
    }

    private static void promises22And23Node() {
        refusesIndex("load, node", (x, node) -> x.load(node), -1, 2, LEAST, MOST);
        takes("load, node", (x, node) -> x.load(node), 0, 1);
        refusesIndex("isCounted, node", (x, node) -> x.isCounted(node), -1, 2, LEAST, MOST);
        takes("isCounted, node", (x, node) -> x.isCounted(node), 0, 1);
    }

    private static void promise24What() {
        refusesArgument("walk, what", (x, what) -> x.walk(what), -1, 4, LEAST, MOST);
        takes("walk, what", (x, what) -> x.walk(what), 0, 1, 2, 3);
    }
}
