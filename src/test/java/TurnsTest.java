/** Whose turn it is: the best place, looking from the lowest one on again, coming back, mending, moving; and ties. */
public final class TurnsTest {
    private static final Due due = new Due();

    public static void main(String[] args) {
        bestPlaceIsInTheRackWithTheFewest();
        bestPlaceIsOnTheNodeWithTheFewest();
        bestPlaceIsTheLowest();
        bestPlaceCountsWhatIsNotKnown();
        bestPlaceCountsCopiesThatAreDown();
        looksFromTheLowestOneOnAgain();
        looksAtTheNextNumberAbove();
        looksByNumberAndNotAsTheyCame();
        looksAtANewPieceFirst();
        looksAtOneThingASecond();
        looksAtTheOnlyThingEverySecond();
        looksForEveryWrongCell();
        looksOnWhereItWas();
        looksOnEachNodeByItself();
        looksAtWhatStepOneLeaves();
        looksOnBehindAMendedOne();
        looksAndMendsInOneSecond();
        comesBackWithFewerThanThree();
        comesBackByRisingNumbers();
        comesBackUnlessItsVersionIsAnother();
        mendsAsOftenAsTheLimitTells();
        mendsTheOneWithTheFewest();
        mendsTheLowest();
        mendsTheNextOneIfTheFirstHasNoPlace();
        mendsWithFewerThanThree();
        mendsByCopiesAndNotByGoodOnes();
        mendsLikeTheFirstGoodOne();
        movesFromTwoMore();
        movesFromAndToTheLowest();
        movesWhereThereIsRoom();
        movesBetweenNodesThatAreUp();
        movesTheLowestThatCan();
        movesInItsPlace();
        movesOneASecondBehindMending();
        due.end();
    }

    /** A file each for so many pieces of one cell. */
    private static BlockFleet pieces(BlockFleet x, int many) {
        for (int piece = 0; piece < many; piece++) {
            x.append(piece == 0 ? 0 : x.file(), piece);
        }
        return x;
    }

    private static void down(BlockFleet x, int... nodes) {
        for (int node : nodes) {
            x.up(node, false);
        }
    }

    private static void up(BlockFleet x, int... nodes) {
        for (int node : nodes) {
            x.up(node, true);
        }
    }

    /** The node has the rack of its number. */
    private static void dropped(BlockFleet x, int node, int file) {
        int piece = x.pieceAt(file, 0);
        x.spoil(node, piece, 0);
        x.read(file, 0, 0, node);
        due.is(-1, "what the node " + node + " has of the dropped piece " + piece, () -> x.on(node, piece, 0));
    }

    private static void has(BlockFleet x, int node, int... pieces) {
        due.is(pieces.length, "load(" + node + ")", () -> x.load(node));
        for (int piece : pieces) {
            due.is(true, "the piece " + piece + " on the node " + node, () -> x.on(node, piece, 0) != -1);
        }
    }

    // ---- the best place

    private static void bestPlaceIsInTheRackWithTheFewest() {
        // The node 2 has more in all than the node 1, but the rack 1 has none yet.
        BlockFleet x = Due.fleet(1, 6);
        x.append(0, 1);
        x.append(x.file(), 1);
        x.node(0, 6);
        x.node(0, 6);
        x.append(x.file(), 1);
        due.copies(x, 2, 1, 0, 2);
        BlockFleet y = Due.fleet(0, 6, 0, 6, 0, 6, 1, 6);
        y.append(0, 1);
        due.copies(y, 0, 0, 3, 1);
        BlockFleet z = Due.fleet(3, 6, 3, 6, 2, 6, 2, 6);
        z.append(0, 1);
        due.copies(z, 0, 0, 2, 1);
    }

    private static void bestPlaceIsOnTheNodeWithTheFewest() {
        BlockFleet x = Due.fleet(0, 6);
        x.append(0, 1);
        x.node(0, 6);
        x.node(0, 6);
        x.append(x.file(), 1);
        due.copies(x, 1, 1, 2, 0);
        x.node(0, 6);
        x.append(x.file(), 1);
        due.copies(x, 2, 3, 1, 2);
    }

    private static void bestPlaceIsTheLowest() {
        BlockFleet x = Due.fleet(0, 6, 0, 6, 0, 6, 0, 6, 0, 6);
        x.append(0, 1);
        due.copies(x, 0, 0, 1, 2);
        x.append(x.file(), 1);
        due.copies(x, 1, 3, 4, 0);
        BlockFleet y = Due.fleet(3, 6, 2, 6, 1, 6, 0, 6);
        y.append(0, 1);
        due.copies(y, 0, 0, 1, 2);
    }

    private static void bestPlaceCountsWhatIsNotKnown() {
        BlockFleet x = Due.fleet(0, 6, 0, 6);
        x.limit(0);
        x.append(0, 1);
        down(x, 0);
        x.put(0, 0, 0, 2);
        x.append(x.file(), 3);
        due.copies(x, 1, 1);
        x.spoil(1, 1, 0);
        x.read(1, 0, 0, 0);
        up(x, 0);
        due.is(1, "load of the stale one", () -> x.load(0));
        due.is(1, "load of the other one", () -> x.load(1));
        x.node(0, 6);
        x.append(x.file(), 4);
        due.copies(x, 2, 2, 0, 1);
    }

    private static void bestPlaceCountsCopiesThatAreDown() {
        BlockFleet x = Due.fleet(0, 6, 1, 6, 2, 6);
        x.limit(0);
        x.append(0, 1);
        dropped(x, 0, 0);
        x.node(3, 6);
        down(x, 0, 1, 2);
        x.append(x.file(), 1);
        x.append(x.file(), 2);
        x.node(2, 6);
        up(x, 1);
        x.limit(3);
        x.pass(1);
        due.copies(x, 1, 3, 4);
        due.copies(x, 2, 3, 1);
        // The copy on the node 2 is down, and still one in the rack 2: the rack 3 is better, though its node has more.
        due.copies(x, 0, 1, 2, 3);
    }

    // ---- looking

    /** One node with the pieces 0 to 2, of which it has looked at so many. */
    private static BlockFleet looked(int seconds) {
        BlockFleet x = pieces(Due.fleet(0, 12), 3);
        x.limit(0);
        if (seconds > 0) {
            x.pass(seconds);
        }
        return x;
    }

    private static void looksFromTheLowestOneOnAgain() {
        for (int seconds = 0; seconds < 8; seconds++) {
            for (int piece = 0; piece < 3; piece++) {
                BlockFleet x = looked(seconds);
                x.spoil(0, piece, 0);
                x.pass(1);
                int want = seconds % 3 == piece ? 2 : 3;
                due.is(want, "load after " + (seconds + 1) + " seconds, wrong is " + piece, () -> x.load(0));
            }
        }
    }

    private static void looksAtTheNextNumberAbove() {
        BlockFleet x = looked(1);
        x.spoil(0, 1, 0);
        x.pass(1);
        has(x, 0, 0, 2);
        x.spoil(0, 2, 0);
        x.spoil(0, 0, 0);
        x.pass(1);
        has(x, 0, 0);
        x.pass(1);
        has(x, 0);
        BlockFleet y = looked(0);
        y.spoil(0, 1, 0);
        y.read(1, 0, 0, 0);
        y.pass(1);
        y.spoil(0, 0, 0);
        y.spoil(0, 2, 0);
        y.pass(1);
        has(y, 0, 0);
        y.pass(1);
        has(y, 0);
    }

    /** The node 1 has got the pieces 1, 2, 3, and 0 last; it looked at the piece 1. */
    private static BlockFleet cameOutOfTurn() {
        BlockFleet x = pieces(Due.fleet(0, 6, 1, 6), 3);
        x.limit(0);
        dropped(x, 1, 0);
        x.append(x.file(), 3);
        x.limit(1);
        x.pass(1);
        x.limit(0);
        return x;
    }

    private static void looksByNumberAndNotAsTheyCame() {
        has(cameOutOfTurn(), 1, 1, 2, 3, 0);
        int[] turns = {2, 3, 0, 1, 2, 3, 0};
        for (int seconds = 0; seconds < turns.length; seconds++) {
            for (int piece = 0; piece < 4; piece++) {
                BlockFleet x = cameOutOfTurn();
                if (seconds > 0) {
                    x.pass(seconds);
                }
                x.spoil(1, piece, 0);
                x.pass(1);
                int want = piece == turns[seconds] ? 3 : 4;
                due.is(want, "load after " + (seconds + 1) + " seconds, wrong is " + piece, () -> x.load(1));
            }
        }
    }

    private static void looksAtANewPieceFirst() {
        BlockFleet x = looked(3);
        x.append(x.file(), 3);
        x.spoil(0, 0, 0);
        x.spoil(0, 3, 0);
        x.pass(1);
        has(x, 0, 0, 1, 2);
        x.pass(1);
        has(x, 0, 1, 2);
    }

    private static void looksAtOneThingASecond() {
        BlockFleet x = looked(0);
        for (int piece = 0; piece < 3; piece++) {
            x.spoil(0, piece, 0);
        }
        x.pass(1);
        has(x, 0, 1, 2);
        x.pass(1);
        has(x, 0, 2);
        x.pass(1);
        has(x, 0);
        due.is(4, "a second with nothing to look at", () -> x.pass(1));
    }

    private static void looksAtTheOnlyThingEverySecond() {
        for (int seconds = 1; seconds <= 3; seconds++) {
            BlockFleet x = pieces(Due.fleet(0, 12), 1);
            x.pass(seconds);
            x.spoil(0, 0, 0);
            x.pass(1);
            has(x, 0);
            x.append(x.file(), 1);
            x.spoil(0, 1, 0);
            x.pass(1);
            has(x, 0);
        }
    }

    private static void looksForEveryWrongCell() {
        for (int cell = 0; cell < 4; cell++) {
            BlockFleet x = Due.fleet(0, 6, 1, 6);
            for (int number = 0; number < 4; number++) {
                x.append(0, number);
            }
            x.limit(0);
            x.spoil(1, 0, cell);
            x.pass(1);
            due.copies(x, 0, 0);
            has(x, 0, 0);
            has(x, 1);
        }
    }

    /** A node that is down does not look, and goes on where it looked last when it is up again. */
    private static void looksOnWhereItWas() {
        BlockFleet x = looked(1);
        down(x, 0);
        for (int piece = 0; piece < 3; piece++) {
            x.spoil(0, piece, 0);
        }
        x.pass(2);
        has(x, 0, 0, 1, 2);
        up(x, 0);
        x.pass(1);
        has(x, 0, 0, 2);
        BlockFleet y = looked(2);
        down(y, 0);
        y.pass(5);
        up(y, 0);
        y.spoil(0, 0, 0);
        y.spoil(0, 2, 0);
        y.pass(1);
        has(y, 0, 0, 1);
    }

    private static void looksOnEachNodeByItself() {
        BlockFleet x = pieces(Due.fleet(0, 6), 1);
        x.limit(0);
        x.node(1, 6);
        x.append(x.file(), 1);
        due.copies(x, 1, 1, 0);
        x.spoil(0, 1, 0);
        x.spoil(1, 1, 0);
        x.pass(1);
        has(x, 0, 0, 1);
        has(x, 1);
        x.pass(1);
        has(x, 0, 0);
    }

    private static void looksAtWhatStepOneLeaves() {
        BlockFleet x = pieces(Due.fleet(0, 6, 1, 6, 2, 6), 2);
        x.limit(0);
        down(x, 0);
        x.put(0, 0, 0, 7);
        up(x, 0);
        x.spoil(0, 1, 0);
        x.pass(1);
        // The piece 0 was stale, so that the piece 1 is the lowest one to look at.
        has(x, 0);
    }

    /** A wrong one that was looked at, dropped, and mended at once has had its turn. */
    private static void looksOnBehindAMendedOne() {
        BlockFleet x = pieces(Due.fleet(0, 6, 1, 6), 3);
        x.spoil(0, 0, 0);
        x.pass(1);
        due.copies(x, 0, 1, 0);
        x.spoil(0, 0, 0);
        x.spoil(0, 1, 0);
        x.pass(1);
        due.copies(x, 1, 1, 0);
        due.is(1, "wrong still on the piece 0", () -> x.on(0, 0, 2));
        due.is(0, "wrong on the piece 1", () -> x.on(0, 1, 2));
    }

    private static void looksAndMendsInOneSecond() {
        BlockFleet x = pieces(Due.fleet(0, 6, 1, 6, 2, 6), 1);
        x.spoil(0, 0, 0);
        x.pass(1);
        due.copies(x, 0, 1, 2, 0);
        due.is(0, "wrong cells of the mended one", () -> x.on(0, 0, 2));
        due.is(-1, "the primary, which was dropped", () -> x.piece(0, 3));
        BlockFleet y = pieces(Due.fleet(0, 6, 1, 6, 2, 6), 1);
        y.spoil(2, 0, 0);
        y.pass(1);
        due.copies(y, 0, 0, 1, 2);
        due.is(0, "the primary, which stays", () -> y.piece(0, 3));
    }

    // ---- coming back

    private static void comesBackWithFewerThanThree() {
        for (int left = 0; left < 3; left++) {
            BlockFleet x = pieces(Due.fleet(0, 6, 1, 6, 2, 6), 1);
            x.limit(0);
            down(x, 2);
            x.pass(3);
            for (int node = left; node < 2; node++) {
                dropped(x, node, 0);
            }
            int before = left;
            due.is(before, "copies ahead of it", () -> x.piece(0, 1));
            up(x, 2);
            x.pass(1);
            due.is(before + 1, "copies with it", () -> x.piece(0, 1));
            due.is(2, "the last one", () -> x.copyAt(0, before));
            has(x, 2, 0);
        }
        BlockFleet x = pieces(Due.fleet(0, 6, 1, 6, 2, 6, 3, 6), 1);
        down(x, 2);
        x.pass(3);
        due.copies(x, 0, 0, 1, 3);
        up(x, 2);
        x.pass(1);
        due.copies(x, 0, 0, 1, 3);
        has(x, 2);
        has(x, 3, 0);
    }

    private static void comesBackByRisingNumbers() {
        BlockFleet x = pieces(Due.fleet(0, 6, 1, 6, 2, 6), 2);
        x.limit(0);
        down(x, 0, 1, 2);
        x.pass(3);
        up(x, 2, 1, 0);
        x.pass(1);
        due.copies(x, 0, 0, 1, 2);
        due.copies(x, 1, 0, 1, 2);
        down(x, 0, 1);
        x.pass(3);
        due.copies(x, 0, 2);
        up(x, 1);
        x.pass(1);
        up(x, 0);
        x.pass(1);
        due.copies(x, 0, 2, 1, 0);
        BlockFleet y = pieces(Due.fleet(0, 6, 1, 6, 2, 6, 3, 6, 3, 6), 1);
        down(y, 0, 1, 2);
        y.pass(3);
        up(y, 2);
        y.pass(1);
        due.copies(y, 0, 2, 3);
        up(y, 1, 0);
        y.limit(0);
        y.pass(1);
        due.copies(y, 0, 2, 3, 0);
        has(y, 1);
    }

    private static void comesBackUnlessItsVersionIsAnother() {
        BlockFleet x = pieces(Due.fleet(0, 6, 1, 6, 2, 6), 2);
        x.limit(0);
        down(x, 0);
        x.pass(3);
        x.put(0, 0, 0, 7);
        due.is(3, "version of the one that was written", () -> x.piece(0, 0));
        due.is(2, "version on the one that is down", () -> x.on(0, 0, 0));
        up(x, 0);
        x.pass(1);
        due.copies(x, 0, 1, 2);
        due.copies(x, 1, 1, 2, 0);
        has(x, 0, 1);
        BlockFleet y = pieces(Due.fleet(0, 6, 1, 6, 2, 6), 1);
        y.limit(0);
        down(y, 0);
        y.put(0, 0, 0, 7);
        up(y, 0);
        due.is(true, "isCounted of one that was down for less than a second", () -> y.isCounted(0));
        due.copies(y, 0, 1, 2);
        y.pass(1);
        due.copies(y, 0, 1, 2);
        has(y, 0);
    }

    // ---- mending

    /** Four pieces of which the node 0 has no copy any more. */
    private static BlockFleet needy() {
        BlockFleet x = pieces(Due.fleet(0, 12, 1, 12, 2, 12), 4);
        x.limit(0);
        for (int file = 0; file < 4; file++) {
            dropped(x, 0, file);
        }
        return x;
    }

    private static void mendsAsOftenAsTheLimitTells() {
        for (int limit = 0; limit <= 3; limit++) {
            BlockFleet x = needy();
            x.limit(limit);
            int many = limit;
            x.pass(1);
            due.is(many, "mended with the limit " + many, () -> x.load(0));
            x.pass(1);
            due.is(Math.min(4, 2 * many), "mended in two seconds with the limit " + many, () -> x.load(0));
        }
        BlockFleet x = pieces(Due.fleet(0, 12, 1, 12, 2, 12), 2);
        dropped(x, 0, 0);
        dropped(x, 0, 1);
        x.pass(1);
        due.is(1, "mended with the limit that is there at first", () -> x.load(0));
    }

    private static void mendsTheOneWithTheFewest() {
        BlockFleet x = needy();
        dropped(x, 1, 2);
        x.limit(1);
        x.pass(1);
        has(x, 0, 2);
        due.copies(x, 2, 2, 0);
        x.pass(1);
        // The piece 2 has two copies now, as the others have: the lowest of these is mended.
        has(x, 0, 0, 2);
    }

    private static void mendsTheLowest() {
        BlockFleet x = needy();
        x.limit(2);
        x.pass(1);
        has(x, 0, 0, 1);
        x.pass(1);
        has(x, 0, 0, 1, 2, 3);
    }

    private static void mendsTheNextOneIfTheFirstHasNoPlace() {
        BlockFleet x = Due.fleet(0, 6, 1, 6);
        x.append(0, 1);
        x.node(2, 1);
        down(x, 0);
        x.append(x.file(), 2);
        up(x, 0);
        due.copies(x, 0, 0, 1);
        due.copies(x, 1, 2, 1);
        x.limit(1);
        x.pass(1);
        due.copies(x, 0, 0, 1);
        due.copies(x, 1, 2, 1, 0);
        BlockFleet y = needy();
        y.spoil(1, 0, 0);
        y.spoil(2, 0, 0);
        y.read(0, 0, 0, 1);
        y.limit(1);
        y.pass(1);
        due.copies(y, 0);
        due.copies(y, 1, 1, 2, 0);
    }

    private static void mendsWithFewerThanThree() {
        BlockFleet x = pieces(Due.fleet(0, 6, 1, 6), 1);
        x.node(2, 6);
        x.limit(1);
        x.pass(1);
        due.copies(x, 0, 0, 1, 2);
        x.node(3, 6);
        x.pass(3);
        due.copies(x, 0, 0, 1, 2);
        has(x, 3);
    }

    private static void mendsByCopiesAndNotByGoodOnes() {
        BlockFleet x = pieces(Due.fleet(0, 6, 0, 6, 1, 6), 1);
        due.copies(x, 0, 0, 2, 1);
        x.node(3, 6);
        down(x, 2);
        x.limit(3);
        x.pass(2);
        due.copies(x, 0, 0, 2, 1);
        has(x, 3);
        x.pass(1);
        due.copies(x, 0, 0, 1, 3);
        BlockFleet y = pieces(Due.fleet(0, 6, 1, 6, 2, 6), 1);
        y.limit(0);
        dropped(y, 2, 0);
        down(y, 1);
        y.append(y.file(), 2);
        up(y, 1);
        y.node(3, 6);
        down(y, 2);
        due.copies(y, 0, 0, 1);
        due.copies(y, 1, 2, 0);
        y.limit(1);
        y.pass(1);
        // Both have two copies, the piece 1 but one good one: the lowest is mended.
        due.copies(y, 0, 0, 1, 3);
        due.copies(y, 1, 2, 0);
    }

    private static void mendsLikeTheFirstGoodOne() {
        BlockFleet x = unevenFleet();
        dropped(x, 0, 0);
        x.limit(1);
        x.pass(1);
        due.copies(x, 0, 1, 2, 0);
        due.is(1, "cells like those of the first, which has one", () -> x.on(0, 0, 1));
        due.is(2, "its version", () -> x.on(0, 0, 0));
        BlockFleet y = unevenFleet();
        dropped(y, 0, 0);
        down(y, 1);
        y.limit(1);
        y.pass(1);
        due.copies(y, 0, 1, 2, 0);
        due.is(2, "cells like those of the next, as the first is down", () -> y.on(0, 0, 1));
        due.is(8, "its last cell", () -> y.cellOn(0, 0, 1));
        BlockFleet z = unevenFleet();
        dropped(z, 0, 0);
        z.append(z.file(), 5);
        z.pass(1);
        z.spoil(1, 0, 0);
        z.limit(1);
        // The nodes look at the piece 1 in this second, so that the wrong copy stays.
        z.pass(1);
        due.copies(z, 0, 1, 2, 0);
        due.is(2, "cells like those of the next, as the first is wrong", () -> z.on(0, 0, 1));
        due.is(0, "its wrong cells", () -> z.on(0, 0, 2));
    }

    /** The copy on the node 1 has one cell, the others have two. */
    private static BlockFleet unevenFleet() {
        BlockFleet x = Due.fleet(0, 6, 1, 6, 2, 6);
        x.limit(0);
        x.append(0, 7);
        down(x, 1);
        x.append(0, 8);
        up(x, 1);
        return x;
    }

    // ---- moving

    /** Nodes in racks of their own, each with so many pieces of its own, and balancing on. */
    private static BlockFleet loads(int... loads) {
        BlockFleet x = new BlockFleet();
        x.limit(0);
        for (int node = 0; node < loads.length; node++) {
            x.node(node % 4, 6);
        }
        for (int node = 0; node < loads.length; node++) {
            for (int other = 0; other < loads.length; other++) {
                x.up(other, other == node);
            }
            for (int i = 0; i < loads[node]; i++) {
                x.append(x.file(), i);
            }
        }
        for (int node = 0; node < loads.length; node++) {
            x.up(node, true);
        }
        x.balance(true);
        return x;
    }

    private static void loadsThen(BlockFleet x, int seconds, int... wants) {
        x.pass(seconds);
        for (int i = 0; i < wants.length; i++) {
            int node = i;
            due.is(wants[i], "load(" + i + ") after " + seconds + " seconds more", () -> x.load(node));
        }
    }

    private static void movesFromTwoMore() {
        loadsThen(loads(1, 1), 1, 1, 1);
        loadsThen(loads(2, 1), 1, 2, 1);
        loadsThen(loads(2, 0), 1, 1, 1);
        loadsThen(loads(3, 1), 1, 2, 2);
        loadsThen(loads(3, 0), 1, 2, 1);
        loadsThen(loads(3, 0), 5, 2, 1);
        loadsThen(loads(0, 2), 1, 1, 1);
        loadsThen(loads(0, 1), 1, 0, 1);
        loadsThen(loads(0, 0), 1, 0, 0);
        loadsThen(loads(4), 1, 4);
        BlockFleet x = loads(3, 1);
        due.is(true, "balance(false)", () -> x.balance(false));
        loadsThen(x, 3, 3, 1);
    }

    private static void movesFromAndToTheLowest() {
        loadsThen(loads(3, 3, 1, 1), 1, 2, 3, 2, 1);
        loadsThen(loads(1, 1, 3, 3), 1, 2, 1, 2, 3);
        loadsThen(loads(2, 3, 1, 3), 1, 2, 2, 2, 3);
        loadsThen(loads(2, 1, 3, 1), 1, 2, 2, 2, 1);
    }

    private static void movesWhereThereIsRoom() {
        for (int room = 1; room <= 2; room++) {
            BlockFleet x = new BlockFleet();
            x.limit(0);
            x.node(0, 6);
            x.node(1, room);
            x.append(x.file(), 1);
            x.up(1, false);
            for (int i = 0; i < 3; i++) {
                x.append(x.file(), i);
            }
            x.up(1, true);
            x.balance(true);
            // The node with the fewest is full, or has room for one more.
            loadsThen(x, 1, room == 1 ? 4 : 3, room);
        }
        BlockFleet y = loads(4, 2);
        y.node(2, 6);
        y.node(3, 1);
        loadsThen(y, 1, 3, 2, 1, 0);
        loadsThen(y, 1, 2, 2, 1, 1);
        loadsThen(y, 3, 2, 2, 1, 1);
        BlockFleet full = new BlockFleet();
        full.limit(0);
        full.node(0, 6);
        full.node(1, 1);
        full.node(2, 6);
        down(full, 0, 2);
        full.append(full.file(), 1);
        up(full, 0);
        for (int i = 0; i < 4; i++) {
            full.append(full.file(), i);
        }
        up(full, 2);
        down(full, 0);
        full.append(full.file(), 1);
        full.append(full.file(), 1);
        up(full, 0);
        full.balance(true);
        // The one with the fewest is full, so that nothing moves, though the node 2 has two fewer and room.
        loadsThen(full, 3, 4, 1, 2);
    }

    private static void movesBetweenNodesThatAreUp() {
        BlockFleet x = loads(4, 3, 1);
        x.up(0, false);
        loadsThen(x, 1, 4, 2, 2);
        BlockFleet y = loads(4, 1, 2);
        y.up(1, false);
        loadsThen(y, 1, 3, 1, 3);
        BlockFleet z = loads(4, 1, 2);
        z.up(0, false);
        loadsThen(z, 4, 4, 1, 2);
        z.up(0, true);
        loadsThen(z, 1, 3, 2, 2);
    }

    private static void movesTheLowestThatCan() {
        BlockFleet x = loads(3, 0);
        x.pass(1);
        has(x, 0, 1, 2);
        has(x, 1, 0);
        BlockFleet wrong = loads(3, 0);
        wrong.balance(false);
        wrong.pass(1);
        wrong.spoil(0, 0, 0);
        wrong.balance(true);
        wrong.pass(1);
        has(wrong, 0, 0, 2);
        has(wrong, 1, 1);
        BlockFleet both = Due.fleet(0, 6, 1, 6);
        both.limit(0);
        both.append(0, 0);
        both.up(1, false);
        both.append(both.file(), 1);
        both.append(both.file(), 2);
        both.up(1, true);
        both.balance(true);
        both.pass(1);
        has(both, 0, 0, 2);
        has(both, 1, 0, 1);
    }

    private static void movesInItsPlace() {
        BlockFleet x = pieces(Due.fleet(0, 6, 1, 6, 2, 6), 1);
        x.limit(0);
        x.up(0, false);
        x.up(2, false);
        x.append(x.file(), 1);
        x.append(x.file(), 2);
        x.up(0, true);
        x.up(2, true);
        x.node(3, 6);
        x.balance(true);
        x.pass(1);
        due.copies(x, 0, 0, 3, 2);
        due.is(0, "the primary, as another one moved", () -> x.piece(0, 3));
        due.is(10, "the end of its lease", () -> x.piece(0, 4));
        due.is(0, "the number that moved", () -> x.cellOn(3, 0, 0));
        due.is(2, "the version that moved", () -> x.on(3, 0, 0));
        due.is(-1, "what is left on the first one", () -> x.on(1, 0, 0));
        BlockFleet y = loads(2, 0);
        due.is(0, "the primary", () -> y.piece(0, 3));
        y.pass(1);
        due.copies(y, 0, 1);
        due.is(-1, "the primary, as it moved", () -> y.piece(0, 3));
        due.is(-1, "the end of its lease", () -> y.piece(0, 4));
        due.is(0, "the primary of the one that stayed", () -> y.piece(1, 3));
    }

    private static void movesOneASecondBehindMending() {
        loadsThen(loads(6, 0), 1, 5, 1);
        loadsThen(loads(6, 0), 2, 4, 2);
        loadsThen(loads(6, 0), 3, 3, 3);
        loadsThen(loads(6, 0), 4, 3, 3);
        BlockFleet x = loads(2, 0);
        x.limit(1);
        // Mended ahead of moving: the node 1 has one then, and there is no difference of two.
        x.pass(1);
        has(x, 0, 0, 1);
        has(x, 1, 0);
        due.copies(x, 0, 0, 1);
        due.is(0, "the primary of the one that did not move", () -> x.piece(0, 3));
    }
}
