/** Promises 12 and 13: where new pieces are put, leases, appends, puts, and the parting of shared pieces. */
public final class WritingTest {
    private static final Due due = new Due();

    public static void main(String[] args) {
        promise12WrongInput();
        promise12BestPlaces();
        promise12Bounds();
        promise12FailedCopy();
        promise12Lease();
        promise12PrimaryDown();
        promise12ShorterPrimary();
        promise12NothingBetween();
        promise12NewPieceLeavesTheOldOne();
        promise13WrongInput();
        promise13Put();
        promise13Parts();
        promise13PartsWhereThereIsRoom();
        promise13ChangesNothingWhenItThrows();
        due.end();
    }

    private static void promise12WrongInput() {
        BlockFleet x = Due.fleet(0, 6);
        due.noIndex("append(-1, 0)", () -> x.append(-1, 0));
        due.noIndex("append(1, 1000)", () -> x.append(1, 1000));
        due.noArgument("append(0, -1)", () -> x.append(0, -1));
        due.noArgument("append(0, 1000)", () -> x.append(0, 1000));
        due.is(0, "append(0, 0)", () -> x.append(0, 0));
        due.is(1, "append(0, 999)", () -> x.append(0, 999));
        due.copies(x, 0, 0);
    }

    private static void promise12BestPlaces() {
        BlockFleet x = Due.fleet(0, 6, 0, 6, 1, 6, 1, 1);
        x.append(0, 1);
        due.copies(x, 0, 0, 2, 1);
        x.file();
        x.append(1, 1);
        due.copies(x, 1, 3, 0, 1);
        x.file();
        x.append(2, 1);
        due.copies(x, 2, 2, 0, 1);
        due.is(1, "load(3), which is full", () -> x.load(3));
        due.is(2, "version after the first lease", () -> x.piece(2, 0));
    }

    private static void promise12Bounds() {
        BlockFleet x = Due.fleet(0, 12, 1, 12, 2, 12);
        for (int i = 0; i < 24; i++) {
            int want = 10 * (i / 4) + i % 4;
            due.is(want, "append", () -> x.append(0, 1));
        }
        due.noState("append to six full pieces", () -> x.append(0, 1));
        due.is(6, "pieces", () -> x.pieces(0));
        BlockFleet without = Due.fleet();
        due.noState("append without nodes", () -> without.append(0, 1));
        BlockFleet full = Due.fleet(0, 1);
        for (int i = 0; i < 4; i++) {
            full.append(0, 1);
        }
        due.noState("append without room", () -> full.append(0, 1));
        due.is(1, "pieces then", () -> full.pieces(0));
        full.up(0, false);
        due.noState("append without a copy that is up", () -> full.append(0, 1));
        BlockFleet many = Due.fleet(0, 12, 0, 12, 0, 12, 0, 12, 0, 12, 0, 12, 0, 12, 0, 12);
        for (int node = 1; node < 8; node++) {
            many.up(node, false);
        }
        makeSixty(many);
        due.noState("the piece 60", () -> many.append(many.file(), 1));
        due.is(2, "version of the last piece", () -> many.piece(59, 0));
        int shared = many.snapshot(11);
        due.noState("put to a shared piece when there are 60", () -> many.put(shared, 4, 0, 1));
        due.is(59, "the piece stays", () -> many.pieceAt(shared, 4));
        due.noIndex("piece(60, 0)", () -> many.piece(60, 0));
    }

    /** Every piece has one copy, so that all find room, and two places stay free: one node is up at a time. */
    private static void makeSixty(BlockFleet x) {
        int number = 0;
        for (int i = 0; i < 60; i++) {
            if (i > 0 && i % 10 == 0) {
                x.up(i / 10 - 1, false);
                x.up(i / 10, true);
            }
            if (i > 0 && i % 5 == 0) {
                number = x.file();
            }
            for (int cell = 0; cell < 4; cell++) {
                x.append(number, cell);
            }
        }
    }

    private static void promise12FailedCopy() {
        BlockFleet x = Due.fleet(0, 6, 1, 6, 2, 6);
        x.append(0, 1);
        x.up(1, false);
        due.is(-1, "append with a copy down", () -> x.append(0, 2));
        due.is(2, "what was written stays", () -> x.cellOn(0, 0, 1));
        due.is(2, "on the third, too", () -> x.cellOn(2, 0, 1));
        due.is(1, "not on the one that was down", () -> x.on(1, 0, 1));
        due.is(-1, "the primary", () -> x.piece(0, 3));
        due.is(-1, "the lease's end", () -> x.piece(0, 4));
        due.copies(x, 0, 0, 1, 2);
        due.is(2, "append again, doubled", () -> x.append(0, 2));
        due.copies(x, 0, 0, 2);
        due.is(3, "version", () -> x.piece(0, 0));
        due.is(2, "version on the one that is down", () -> x.on(1, 0, 0));
        due.is(1, "its load", () -> x.load(1));
    }

    private static void promise12Lease() {
        BlockFleet x = Due.fleet(0, 6, 1, 6, 2, 6);
        x.pass(4);
        x.append(0, 1);
        due.is(0, "the primary", () -> x.piece(0, 3));
        due.is(14, "the lease's end", () -> x.piece(0, 4));
        x.pass(9);
        x.append(0, 2);
        due.is(2, "version in the lease", () -> x.piece(0, 0));
        due.is(14, "the lease's end", () -> x.piece(0, 4));
        x.pass(1);
        due.is(-1, "the primary when the lease is over", () -> x.piece(0, 3));
        due.is(-1, "the end when the lease is over", () -> x.piece(0, 4));
        x.append(0, 3);
        due.is(3, "version after the lease", () -> x.piece(0, 0));
        due.is(24, "the next lease's end", () -> x.piece(0, 4));
        due.is(3, "version on a node", () -> x.on(2, 0, 0));
    }

    private static void promise12PrimaryDown() {
        BlockFleet x = Due.fleet(0, 6, 1, 6, 2, 6);
        x.append(0, 1);
        x.up(0, false);
        due.is(0, "the primary is down, the lease not over", () -> x.piece(0, 3));
        due.is(1, "append", () -> x.append(0, 2));
        due.is(1, "the next primary", () -> x.piece(0, 3));
        due.copies(x, 0, 1, 2);
        x.up(1, false);
        x.up(2, false);
        due.noState("append with all down", () -> x.append(0, 3));
        due.copies(x, 0, 1, 2);
        due.is(3, "version", () -> x.piece(0, 0));
        due.is(1, "the primary is as it was", () -> x.piece(0, 3));
    }

    private static void promise12ShorterPrimary() {
        BlockFleet x = Due.fleet(0, 6, 1, 6, 2, 6);
        x.append(0, 1);
        x.up(1, false);
        x.append(0, 2);
        x.up(1, true);
        x.put(0, 0, 0, 3);
        x.up(0, false);
        due.is(0, "the primary that is down", () -> x.piece(0, 3));
        due.noState("put behind the cells of the next primary", () -> x.put(0, 0, 1, 4));
        due.is(1, "append behind these", () -> x.append(0, 4));
    }

    private static void promise12NothingBetween() {
        BlockFleet x = Due.fleet(0, 6, 1, 6, 2, 6);
        x.append(0, 1);
        x.up(2, false);
        x.append(0, 2);
        x.up(2, true);
        due.is(2, "append", () -> x.append(0, 3));
        due.is(3, "how many cells", () -> x.on(2, 0, 1));
        due.is(-1, "the cell between", () -> x.cellOn(2, 0, 1));
        due.is(-1, "the cell between, read", () -> x.read(0, 0, 1, 2));
        due.is(2, "the cell elsewhere, read", () -> x.read(0, 0, 1, 1));
        due.is(false, "spoil the cell between", () -> x.spoil(2, 0, 1));
        due.is(true, "put into it", () -> x.put(0, 0, 1, 7));
        due.is(7, "the cell then", () -> x.read(0, 0, 1, 2));
        BlockFleet y = Due.fleet(0, 6, 1, 6, 2, 6);
        y.append(0, 1);
        y.up(1, false);
        y.append(0, 2);
        y.up(1, true);
        y.up(0, false);
        due.is(1, "append behind a shorter primary", () -> y.append(0, 3));
        due.is(3, "over the longer one", () -> y.cellOn(2, 0, 1));
        due.is(2, "its cells", () -> y.on(2, 0, 1));
    }

    private static void promise12NewPieceLeavesTheOldOne() {
        BlockFleet x = Due.fleet(0, 6, 1, 6, 2, 6);
        for (int i = 0; i < 4; i++) {
            x.append(0, i);
        }
        x.snapshot(0);
        x.pass(10);
        x.up(0, false);
        due.is(10, "append to a full shared piece", () -> x.append(0, 4));
        due.is(0, "the old piece stays", () -> x.pieceAt(0, 0));
        due.is(2, "its version", () -> x.piece(0, 0));
        due.is(-1, "its primary", () -> x.piece(0, 3));
        due.copies(x, 0, 0, 1, 2);
        due.copies(x, 1, 1, 2);
        due.is(1, "files of the new one", () -> x.piece(1, 5));
    }

    private static void promise13WrongInput() {
        BlockFleet x = Due.fleet(0, 6);
        x.append(0, 1);
        due.noIndex("put(-1, 0, 0, 0)", () -> x.put(-1, 0, 0, 0));
        due.noIndex("put(1, 0, 0, 0)", () -> x.put(1, 0, 0, 0));
        due.noIndex("put(0, -1, 0, 0)", () -> x.put(0, -1, 0, 0));
        due.noIndex("put(0, 1, 0, 0)", () -> x.put(0, 1, 0, 0));
        due.noIndex("put(0, 0, -1, 0)", () -> x.put(0, 0, -1, 0));
        due.noIndex("put(0, 0, 4, 1000)", () -> x.put(0, 0, 4, 1000));
        due.noArgument("put(0, 0, 3, -1)", () -> x.put(0, 0, 3, -1));
        due.noArgument("put(0, 0, 0, 1000)", () -> x.put(0, 0, 0, 1000));
        due.noState("put(0, 0, 1, 0)", () -> x.put(0, 0, 1, 0));
        x.up(0, false);
        due.noState("put with all down", () -> x.put(0, 0, 0, 0));
        x.up(0, true);
        due.is(true, "put(0, 0, 0, 0)", () -> x.put(0, 0, 0, 0));
        due.is(true, "put(0, 0, 0, 999)", () -> x.put(0, 0, 0, 999));
    }

    private static void promise13Put() {
        BlockFleet x = Due.fleet(0, 6, 1, 6, 2, 6);
        x.append(0, 1);
        x.append(0, 2);
        due.is(true, "put", () -> x.put(0, 0, 0, 9));
        for (int node = 0; node < 3; node++) {
            int asked = node;
            due.is(9, "the cell on " + node, () -> x.cellOn(asked, 0, 0));
            due.is(2, "the cells on " + node, () -> x.on(asked, 0, 1));
        }
        x.up(2, false);
        due.is(false, "put with a copy down", () -> x.put(0, 0, 0, 8));
        due.is(8, "what was written", () -> x.cellOn(0, 0, 0));
        due.is(9, "what was not", () -> x.cellOn(2, 0, 0));
        due.is(-1, "the lease", () -> x.piece(0, 4));
        due.is(true, "put again", () -> x.put(0, 0, 0, 7));
        due.copies(x, 0, 0, 1);
    }

    private static void promise13Parts() {
        BlockFleet x = Due.fleet(0, 6, 1, 6, 2, 6);
        x.append(0, 1);
        x.append(0, 2);
        x.snapshot(0);
        x.spoil(0, 0, 1);
        x.up(1, false);
        due.is(true, "put to a shared piece", () -> x.put(1, 0, 0, 5));
        due.is(1, "its own piece", () -> x.pieceAt(1, 0));
        due.copies(x, 1, 0, 2);
        due.is(-1, "nothing of it where no good copy was", () -> x.on(1, 1, 0));
        due.is(2, "its version", () -> x.piece(1, 0));
        due.is(2, "wrong on the first", () -> x.on(0, 1, 2));
        due.is(2, "wrong on the other, like the first", () -> x.on(2, 1, 2));
        due.is(0, "wrong on the other's old copy", () -> x.on(2, 0, 2));
        due.is(1, "the old piece", () -> x.cellOn(0, 0, 0));
        due.is(0, "the old piece's primary", () -> x.piece(0, 3));
        due.is(1, "its files", () -> x.piece(0, 5));
        due.copies(x, 0, 0, 1, 2);
        due.is(false, "put to the old one, which is not shared", () -> x.put(0, 0, 0, 6));
        due.is(0, "it stays", () -> x.pieceAt(0, 0));
        x.snapshot(1);
        x.remove(1);
        due.is(true, "put to a piece of a deleted file, over the wrong cell", () -> x.put(2, 0, 1, 4));
        due.is(2, "it parts", () -> x.pieceAt(2, 0));
        x.snapshot(2);
        x.remove(2);
        x.pass(20);
        due.is(true, "put to a piece of a gone file", () -> x.put(3, 0, 0, 4));
        due.is(2, "it does not part", () -> x.pieceAt(3, 0));
    }

    private static void promise13PartsWhereThereIsRoom() {
        BlockFleet x = Due.fleet(0, 1, 1, 1, 2, 2);
        x.append(0, 1);
        x.snapshot(0);
        x.spoil(0, 0, 0);
        due.is(1, "append to a shared piece", () -> x.append(1, 2));
        due.copies(x, 1, 2);
        due.is(1, "wrong, like the first one, which had no room", () -> x.on(2, 1, 2));
        due.noState("the piece has parted, so both can be written: the primary has one cell", () -> x.put(0, 0, 1, 5));
        x.snapshot(1);
        due.noState("no room for another", () -> x.put(2, 0, 0, 5));
        due.is(1, "the piece stays", () -> x.pieceAt(2, 0));
        due.is(2, "its files", () -> x.piece(1, 5));
        due.noIndex("no piece was made", () -> x.piece(2, 0));
    }

    private static void promise13ChangesNothingWhenItThrows() {
        BlockFleet x = Due.fleet(0, 6, 1, 6, 2, 6);
        x.append(0, 1);
        x.snapshot(0);
        x.pass(10);
        x.up(0, false);
        due.noState("put behind the primary's cells", () -> x.put(1, 0, 1, 5));
        due.is(0, "the piece stays", () -> x.pieceAt(1, 0));
        due.noIndex("no piece was made", () -> x.piece(1, 0));
        x.remove(0);
        x.pass(2);
        due.noState("put behind the primary's cells, shared with a deleted one", () -> x.put(1, 0, 3, 5));
        due.is(2, "version", () -> x.piece(0, 0));
        due.copies(x, 0, 0, 1, 2);
        x.up(1, false);
        x.up(2, false);
        due.noState("put to a shared piece without a good copy", () -> x.put(1, 0, 0, 5));
        due.noState("append to a shared piece without a good copy", () -> x.append(1, 5));
        due.is(2, "its files", () -> x.piece(0, 5));
        due.copies(x, 0, 0, 1, 2);
    }
}
