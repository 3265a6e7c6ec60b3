/** Promises 8 to 11 and 15 to 17: files as such. */
public final class FilesTest {
    private static final Due due = new Due();

    public static void main(String[] args) {
        promise8File();
        promise9Snapshot();
        promise10Remove();
        promise11Restore();
        promise15State();
        promise16Pieces();
        promise17PieceAt();
        due.end();
    }

    /** Three nodes, one file of two pieces. */
    private static BlockFleet fleetOfTwoPieces() {
        BlockFleet x = new BlockFleet();
        for (int rack = 0; rack < 3; rack++) {
            x.node(rack, 12);
        }
        x.file();
        for (int number = 1; number <= 5; number++) {
            x.append(0, number);
        }
        return x;
    }

    private static void promise8File() {
        BlockFleet x = new BlockFleet();
        for (int i = 0; i < 20; i++) {
            int number = i;
            due.is(number, "file()", x::file);
        }
        due.noState("file() beyond 20", x::file);
        x.remove(0);
        x.pass(20);
        due.noState("file() beyond 20, one of them gone", x::file);
        due.is(0, "pieces of a new file", () -> x.pieces(19));
    }

    private static void promise9Snapshot() {
        BlockFleet x = fleetOfTwoPieces();
        due.noIndex("snapshot(-1)", () -> x.snapshot(-1));
        due.noIndex("snapshot(1)", () -> x.snapshot(1));
        due.is(1, "snapshot(0)", () -> x.snapshot(0));
        due.is(2, "pieces(1)", () -> x.pieces(1));
        due.is(1, "pieceAt(1, 1)", () -> x.pieceAt(1, 1));
        due.is(2, "piece(1, 5)", () -> x.piece(1, 5));
        due.is(2, "snapshot of a snapshot", () -> x.snapshot(1));
        due.is(3, "piece(1, 5)", () -> x.piece(1, 5));
        due.is(10, "append to the first one", () -> x.append(0, 6) - 1);
        due.is(2, "its own piece", () -> x.pieceAt(0, 1));
        due.is(1, "the snapshot's piece", () -> x.pieceAt(1, 1));
        due.is(-1, "the snapshot's end", () -> x.read(1, 1, 1, 0));
        x.remove(0);
        due.noState("snapshot of a deleted file", () -> x.snapshot(0));
        x.pass(20);
        due.noState("snapshot of a gone file", () -> x.snapshot(0));
        for (int i = 3; i < 20; i++) {
            x.snapshot(1);
        }
        due.noState("snapshot beyond 20", () -> x.snapshot(1));
        due.is(19, "files that share it", () -> x.piece(0, 5));
        due.noIndex("snapshot(20)", () -> x.snapshot(20));
    }

    private static void promise10Remove() {
        BlockFleet x = fleetOfTwoPieces();
        due.noIndex("remove(-1)", () -> x.remove(-1));
        due.noIndex("remove(1)", () -> x.remove(1));
        due.happens("remove(0)", () -> x.remove(0));
        due.noState("remove(0) again", () -> x.remove(0));
        due.noState("append to it", () -> x.append(0, 1));
        due.noArgument("append of 1000 to it", () -> x.append(0, 1000));
        due.noState("put to it", () -> x.put(0, 0, 0, 1));
        due.noState("read from it", () -> x.read(0, 0, 0, 0));
        due.is(1, "piece(0, 5)", () -> x.piece(0, 5));
        x.pass(19);
        due.is(1, "state after 19 seconds", () -> x.state(0));
        due.is(2, "pieces after 19 seconds", () -> x.pieces(0));
        x.pass(1);
        due.is(2, "state after 20 seconds", () -> x.state(0));
        due.is(0, "piece(0, 5)", () -> x.piece(0, 5));
        due.is(3, "copies of a gone piece", () -> x.piece(0, 1));
        due.is(0, "the primary's lease", () -> x.piece(0, 3) + 1);
        due.noState("remove(0) when it is gone", () -> x.remove(0));
        due.noIndex("put to a gone one", () -> x.put(0, 0, 0, 1));
        due.noArgument("append of -1 to a gone one", () -> x.append(0, -1));
        due.noState("append to a gone one", () -> x.append(0, 1));
    }

    private static void promise11Restore() {
        BlockFleet x = fleetOfTwoPieces();
        due.noIndex("restore(-1)", () -> x.restore(-1));
        due.noIndex("restore(1)", () -> x.restore(1));
        due.noState("restore(0) of one that is there", () -> x.restore(0));
        x.remove(0);
        x.pass(19);
        due.happens("restore(0) after 19 seconds", () -> x.restore(0));
        due.is(0, "state(0)", () -> x.state(0));
        due.is(1, "read(0, 0, 0, 0)", () -> x.read(0, 0, 0, 0));
        x.pass(5);
        due.is(0, "state(0) later", () -> x.state(0));
        x.remove(0);
        x.pass(19);
        due.is(1, "state(0), 19 seconds after the second remove", () -> x.state(0));
        x.pass(1);
        due.noState("restore(0) of a gone one", () -> x.restore(0));
    }

    private static void promise15State() {
        BlockFleet x = new BlockFleet();
        due.noIndex("state(0)", () -> x.state(0));
        x.file();
        due.noIndex("state(-1)", () -> x.state(-1));
        due.noIndex("state(1)", () -> x.state(1));
        due.is(BlockFleet.THERE, "state(0)", () -> x.state(0));
        x.remove(0);
        due.is(BlockFleet.DELETED, "state(0)", () -> x.state(0));
        x.pass(20);
        due.is(BlockFleet.GONE, "state(0)", () -> x.state(0));
    }

    private static void promise16Pieces() {
        BlockFleet x = fleetOfTwoPieces();
        due.noIndex("pieces(-1)", () -> x.pieces(-1));
        due.noIndex("pieces(1)", () -> x.pieces(1));
        due.is(2, "pieces(0)", () -> x.pieces(0));
        x.remove(0);
        due.is(2, "pieces(0) deleted", () -> x.pieces(0));
        x.pass(20);
        due.is(0, "pieces(0) gone", () -> x.pieces(0));
    }

    private static void promise17PieceAt() {
        BlockFleet x = fleetOfTwoPieces();
        due.noIndex("pieceAt(-1, 0)", () -> x.pieceAt(-1, 0));
        due.noIndex("pieceAt(1, 0)", () -> x.pieceAt(1, 0));
        due.noIndex("pieceAt(0, -1)", () -> x.pieceAt(0, -1));
        due.noIndex("pieceAt(0, 2)", () -> x.pieceAt(0, 2));
        due.is(0, "pieceAt(0, 0)", () -> x.pieceAt(0, 0));
        due.is(1, "pieceAt(0, 1)", () -> x.pieceAt(0, 1));
        x.remove(0);
        due.is(1, "pieceAt(0, 1) deleted", () -> x.pieceAt(0, 1));
        x.pass(20);
        due.noIndex("pieceAt(0, 0) gone", () -> x.pieceAt(0, 0));
    }
}
