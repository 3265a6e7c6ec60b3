/** What happens in a second (promise 7, and the part 'A second'). */
public final class SecondsTest {
    private static final Due due = new Due();

    public static void main(String[] args) {
        uncountedNodesEndLeases();
        staleCopiesAreDropped();
        copiesComeBack();
        copiesComeBackOneBehindTheOther();
        goneFilesAreDroppedLate();
        gonePiecesAreLeftAlone();
        scrubbing();
        mendingByNeed();
        mendingUnderTheLimit();
        mendingFromASoundCopy();
        mendingPlaces();
        placesBeforeASecondIsSeen();
        balancing();
        balancingTakesTheLowestThatCanMove();
        balancingNeedsRoom();
        due.end();
    }

    private static void fill(BlockFleet x, int file, int numbers) {
        for (int i = 0; i < numbers; i++) {
            x.append(file, i);
        }
    }

    private static void uncountedNodesEndLeases() {
        BlockFleet x = Due.fleet(0, 6, 1, 6, 2, 6);
        x.append(0, 1);
        x.up(2, false);
        x.pass(2);
        due.is(0, "the primary after 2 seconds", () -> x.piece(0, 3));
        due.copies(x, 0, 0, 1, 2);
        x.pass(1);
        due.is(-1, "the primary after 3 seconds, another one being down", () -> x.piece(0, 3));
        due.copies(x, 0, 0, 1);
        due.is(2, "version there", () -> x.on(2, 0, 0));
    }

    private static void staleCopiesAreDropped() {
        BlockFleet x = Due.fleet(0, 6, 1, 6, 2, 6, 3, 6);
        x.limit(0);
        x.append(0, 1);
        x.up(0, false);
        x.append(0, 2);
        x.up(0, true);
        due.is(2, "version on the stale one", () -> x.on(0, 0, 0));
        due.is(2, "good ones", () -> x.piece(0, 2));
        x.pass(1);
        due.is(-1, "version on it after a second", () -> x.on(0, 0, 0));
        due.copies(x, 0, 1, 2);
    }

    private static void copiesComeBack() {
        BlockFleet x = Due.fleet(0, 6, 1, 6, 2, 6, 3, 6);
        x.limit(0);
        x.append(0, 1);
        x.up(0, false);
        x.pass(3);
        due.copies(x, 0, 1, 2);
        x.up(0, true);
        due.copies(x, 0, 1, 2);
        x.pass(1);
        due.copies(x, 0, 1, 2, 0);
        x.up(1, false);
        x.limit(1);
        x.pass(3);
        due.copies(x, 0, 2, 0, 3);
        x.up(1, true);
        x.pass(1);
        due.copies(x, 0, 2, 0, 3);
        due.is(-1, "one too many is dropped", () -> x.on(1, 0, 0));
    }

    private static void copiesComeBackOneBehindTheOther() {
        BlockFleet x = Due.fleet(0, 6, 1, 6, 2, 6, 3, 6);
        x.append(0, 1);
        x.up(0, false);
        x.up(2, false);
        x.pass(3);
        due.copies(x, 0, 1, 3);
        x.up(2, true);
        x.up(0, true);
        x.pass(1);
        due.copies(x, 0, 1, 3, 0);
        due.is(-1, "the later one is one too many", () -> x.on(2, 0, 0));
    }

    private static void goneFilesAreDroppedLate() {
        BlockFleet x = Due.fleet(0, 6, 1, 6, 2, 6);
        x.append(0, 1);
        x.remove(0);
        x.up(2, false);
        x.pass(20);
        due.copies(x, 0, 0, 1);
        due.is(1, "load in the second in which it goes", () -> x.load(0));
        due.is(0, "walk(1)", () -> x.walk(1));
        x.pass(1);
        due.copies(x, 0);
        due.is(0, "load later", () -> x.load(0));
        due.is(1, "load of one that is down", () -> x.load(2));
        x.up(2, true);
        x.pass(1);
        due.is(0, "load of one that was down", () -> x.load(2));
        due.is(2, "version of a gone piece", () -> x.piece(0, 0));
        BlockFleet y = Due.fleet(0, 6, 1, 6, 2, 6, 3, 6);
        y.append(0, 1);
        y.remove(0);
        y.pass(18);
        y.up(0, false);
        y.pass(2);
        due.copies(y, 0, 0, 1, 2);
        y.pass(1);
        due.copies(y, 0);
        due.is(0, "a gone piece is not mended", () -> y.load(3));
    }

    private static void gonePiecesAreLeftAlone() {
        BlockFleet x = Due.fleet(0, 6, 1, 6, 2, 6, 3, 6);
        x.limit(0);
        x.append(0, 1);
        x.spoil(2, 0, 0);
        x.read(0, 0, 0, 2);
        x.remove(0);
        x.pass(19);
        x.limit(3);
        x.pass(1);
        due.copies(x, 0, 0, 1);
        BlockFleet y = Due.fleet(0, 6, 1, 6, 2, 6);
        fill(y, 0, 8);
        y.node(3, 6);
        y.remove(0);
        y.pass(19);
        y.balance(true);
        y.pass(1);
        due.is(0, "load(3), to which nothing gone moves", () -> y.load(3));
    }

    private static void scrubbing() {
        BlockFleet x = Due.fleet(0, 12, 1, 12, 2, 12);
        x.limit(0);
        fill(x, 0, 12);
        x.spoil(0, 1, 0);
        x.spoil(0, 2, 3);
        x.pass(1);
        due.is(3, "load after the piece 0", () -> x.load(0));
        x.pass(1);
        due.is(2, "load after the piece 1", () -> x.load(0));
        due.is(2, "copies", () -> x.piece(1, 1));
        x.spoil(0, 0, 0);
        x.pass(1);
        due.is(1, "load after the piece 2", () -> x.load(0));
        x.pass(1);
        due.is(0, "load after the piece 0 again", () -> x.load(0));
        due.is(-1, "its primary", () -> x.piece(0, 3));
        due.is(3, "load elsewhere", () -> x.load(1));
        for (int piece = 0; piece < 3; piece++) {
            x.spoil(1, piece, 0);
        }
        x.up(1, false);
        x.pass(2);
        due.is(3, "load of one that is down", () -> x.load(1));
    }

    private static void mendingByNeed() {
        BlockFleet x = Due.fleet(0, 12, 1, 12, 2, 12);
        fill(x, 0, 12);
        x.limit(0);
        x.spoil(0, 0, 0);
        x.read(0, 0, 0, 0);
        x.spoil(0, 2, 0);
        x.read(0, 2, 0, 0);
        x.spoil(1, 2, 0);
        x.read(0, 2, 0, 1);
        x.limit(1);
        x.pass(1);
        due.copies(x, 2, 2, 0);
        due.copies(x, 0, 1, 2);
        x.pass(1);
        due.copies(x, 0, 1, 2, 0);
        x.pass(1);
        due.copies(x, 2, 2, 0, 1);
        due.is(2, "the mended version", () -> x.on(0, 2, 0));
        due.is(3, "the mended cell", () -> x.cellOn(0, 2, 3) - 8);
    }

    private static void mendingUnderTheLimit() {
        BlockFleet x = Due.fleet(0, 12, 1, 12, 2, 12);
        fill(x, 0, 8);
        for (int piece = 0; piece < 2; piece++) {
            x.spoil(0, piece, 0);
            x.read(0, piece, 0, 0);
        }
        x.spoil(1, 1, 0);
        x.read(0, 1, 0, 1);
        x.limit(3);
        x.pass(1);
        due.copies(x, 0, 1, 2, 0);
        due.copies(x, 1, 2, 0);
        x.pass(1);
        due.copies(x, 1, 2, 0, 1);
    }

    private static void mendingFromASoundCopy() {
        BlockFleet x = Due.fleet(0, 12, 1, 12, 2, 12, 3, 12);
        fill(x, 0, 8);
        x.limit(0);
        x.pass(1);
        x.spoil(2, 0, 0);
        x.read(0, 0, 0, 2);
        x.spoil(0, 0, 1);
        x.limit(1);
        x.pass(1);
        due.copies(x, 0, 0, 1, 2);
        due.is(0, "wrong cells of the mended copy", () -> x.on(2, 0, 2));
        x.limit(0);
        x.pass(1);
        due.copies(x, 0, 1, 2);
        x.up(1, false);
        x.up(2, false);
        x.limit(3);
        x.pass(1);
        due.copies(x, 0, 1, 2);
        due.is(1, "lost", () -> x.walk(0));
    }

    private static void mendingPlaces() {
        BlockFleet x = Due.fleet(0, 12, 1, 12, 2, 12, 1, 12, 3, 1);
        x.append(0, 1);
        x.file();
        fill(x, 1, 1);
        due.copies(x, 0, 0, 1, 2);
        due.copies(x, 1, 3, 4, 0);
        x.up(2, false);
        x.pass(3);
        due.is(true, "the full node gets none: the rack 1 has one, the rack 0, too", () -> x.copyAt(0, 2) == 3);
        due.copies(x, 0, 0, 1, 3);
    }

    private static void placesBeforeASecondIsSeen() {
        BlockFleet x = Due.fleet(0, 6, 1, 6);
        x.up(0, false);
        x.pass(3);
        x.up(0, true);
        x.append(0, 1);
        due.copies(x, 0, 1);
        x.pass(1);
        due.copies(x, 0, 1, 0);
    }

    private static void balancingTakesTheLowestThatCanMove() {
        BlockFleet x = Due.fleet(0, 6, 1, 6, 2, 6);
        x.limit(0);
        x.balance(true);
        x.append(0, 1);
        x.up(2, false);
        x.append(x.file(), 2);
        x.up(2, true);
        x.pass(1);
        due.is(1, "load(2), one fewer", () -> x.load(2));
        x.up(2, false);
        x.append(x.file(), 3);
        x.up(2, true);
        x.pass(1);
        due.copies(x, 0, 0, 1, 2);
        due.copies(x, 1, 2, 1);
        due.copies(x, 2, 0, 1);
    }

    private static void balancing() {
        BlockFleet x = Due.fleet(0, 12, 1, 12, 2, 12);
        fill(x, 0, 12);
        x.node(3, 12);
        x.node(3, 12);
        x.pass(1);
        due.is(0, "load without balancing", () -> x.load(3));
        x.balance(true);
        x.spoil(0, 0, 3);
        x.pass(1);
        due.is(1, "a move", () -> x.load(3));
        due.copies(x, 0, 0, 1, 2);
        due.copies(x, 1, 3, 1, 2);
        due.is(-1, "the lease of the one that moved its primary", () -> x.piece(1, 3));
        due.is(7, "its last cell", () -> x.cellOn(3, 1, 3));
        due.is(2, "its version", () -> x.on(3, 1, 0));
        x.pass(1);
        due.copies(x, 0, 0, 4, 2);
        due.is(0, "the lease of the one that moved another", () -> x.piece(0, 3));
        x.pass(1);
        due.is(2, "load(2) after the last move", () -> x.load(2));
        x.pass(5);
        due.is(2, "load(2)", () -> x.load(2));
    }

    private static void balancingNeedsRoom() {
        BlockFleet x = Due.fleet(0, 12, 1, 12, 2, 12);
        fill(x, 0, 4);
        x.node(3, 1);
        fill(x, 0, 4);
        due.is(1, "load(3)", () -> x.load(3));
        x.balance(true);
        fill(x, 0, 8);
        x.pass(1);
        due.is(1, "load(3), which is full", () -> x.load(3));
        BlockFleet y = Due.fleet(0, 12, 1, 12, 2, 12);
        fill(y, 0, 8);
        y.node(3, 12);
        y.up(3, false);
        y.balance(true);
        y.pass(1);
        due.is(0, "load(3), which is down", () -> y.load(3));
    }
}
