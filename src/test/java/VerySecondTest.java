/** What is so at the very second: 3 seconds down, 20 seconds deleted, 10 seconds of a lease; the second before, too. */
public final class VerySecondTest {
    private static final Due due = new Due();

    public static void main(String[] args) {
        isCountedOnUntilThreeSecondsDown();
        isCountedOnWhereItCameUpInTime();
        isCountedOnAgainFromASecondOn();
        threeSecondsBeginWhenItGoesDown();
        copiesAreKnownUntilThreeSecondsDown();
        leasesEndAfterThreeSecondsDown();
        allNodesDownForThreeSeconds();
        uncountedNodesGoAheadOfThoseThatComeBack();
        isDeletedUntilTwentySeconds();
        isTakenBackUntilTwentySeconds();
        twentySecondsBeginAnew();
        filesGoOneByOne();
        copiesStayInTheTwentiethSecond();
        wrongCopiesGoInTheTwentiethSecond();
        deletedPiecesAreMendedUntilTwentySeconds();
        deletedPiecesAreMovedUntilTwentySeconds();
        deletedFilesShareUntilTwentySeconds();
        leaseHoldsForTenSeconds();
        leaseIsNotMadeLonger();
        leaseIsOverAtOnceWhenAWriteFails();
        copiesThatAreDownStayUntilTheLeaseIsOver();
        due.end();
    }

    /** Three nodes in three racks, a piece of two cells on all of them, nothing is mended. */
    private static BlockFleet fleet() {
        BlockFleet x = Due.fleet(0, 6, 1, 6, 2, 6);
        x.limit(0);
        x.append(0, 1);
        x.append(0, 2);
        return x;
    }

    private static BlockFleet fleetAt(int second) {
        BlockFleet x = fleet();
        if (second > 0) {
            x.pass(second);
        }
        return x;
    }

    private static void passOneByOne(BlockFleet x, int seconds) {
        for (int i = 0; i < seconds; i++) {
            x.pass(1);
        }
    }

    // ---- 3 seconds down

    private static void isCountedOnUntilThreeSecondsDown() {
        for (int second : new int[] {0, 1, 50}) {
            BlockFleet x = fleetAt(second);
            x.up(1, false);
            due.is(true, "isCounted at once", () -> x.isCounted(1));
            x.pass(1);
            due.is(true, "isCounted after a second", () -> x.isCounted(1));
            x.pass(1);
            due.is(true, "isCounted after 2 seconds", () -> x.isCounted(1));
            x.pass(1);
            due.is(false, "isCounted after 3 seconds", () -> x.isCounted(1));
            x.pass(1);
            due.is(false, "isCounted after 4 seconds", () -> x.isCounted(1));
            due.is(true, "isCounted of one that is up", () -> x.isCounted(0));
            for (int seconds = 2; seconds <= 4; seconds++) {
                BlockFleet y = fleetAt(second);
                y.up(1, false);
                y.pass(seconds);
                due.is(seconds < 3, "isCounted after a call of " + seconds + " seconds", () -> y.isCounted(1));
            }
        }
    }

    private static void isCountedOnWhereItCameUpInTime() {
        BlockFleet x = fleet();
        x.up(1, false);
        x.pass(2);
        x.up(1, true);
        x.pass(1);
        due.is(true, "isCounted of one that was down for 2 seconds", () -> x.isCounted(1));
        due.copies(x, 0, 0, 1, 2);
        due.is(0, "the primary", () -> x.piece(0, 3));
        x.pass(5);
        due.is(true, "isCounted later", () -> x.isCounted(1));
        BlockFleet y = fleet();
        y.up(1, false);
        y.pass(2);
        y.up(1, true);
        y.pass(1);
        y.up(1, false);
        y.pass(2);
        due.is(true, "isCounted, down for 2 seconds again", () -> y.isCounted(1));
        y.pass(1);
        due.is(false, "isCounted, down for 3 seconds", () -> y.isCounted(1));
    }

    private static void isCountedOnAgainFromASecondOn() {
        BlockFleet x = fleet();
        x.up(1, false);
        x.pass(3);
        due.copies(x, 0, 0, 2);
        x.up(1, true);
        due.is(false, "isCounted of one that is up, ahead of a second", () -> x.isCounted(1));
        due.copies(x, 0, 0, 2);
        x.pass(1);
        due.is(true, "isCounted in the second", () -> x.isCounted(1));
        due.copies(x, 0, 0, 2, 1);
        x.up(1, false);
        x.pass(3);
        x.up(1, true);
        x.up(1, false);
        x.pass(1);
        due.is(false, "isCounted of one that was up only between seconds", () -> x.isCounted(1));
        due.copies(x, 0, 0, 2);
    }

    private static void threeSecondsBeginWhenItGoesDown() {
        BlockFleet x = fleet();
        x.up(1, false);
        x.pass(2);
        x.up(1, false);
        x.pass(1);
        due.is(false, "isCounted, told twice that it is down", () -> x.isCounted(1));
        BlockFleet y = fleet();
        y.pass(7);
        y.up(1, true);
        y.up(1, false);
        y.pass(2);
        due.is(true, "isCounted, told that it is up, then down", () -> y.isCounted(1));
        y.pass(1);
        due.is(false, "isCounted 3 seconds later", () -> y.isCounted(1));
    }

    private static void copiesAreKnownUntilThreeSecondsDown() {
        BlockFleet x = fleet();
        x.up(0, false);
        x.pass(2);
        due.copies(x, 0, 0, 1, 2);
        due.is(2, "good ones", () -> x.piece(0, 2));
        due.is(0, "walk(1)", () -> x.walk(1));
        x.pass(1);
        due.copies(x, 0, 1, 2);
        due.is(2, "good ones", () -> x.piece(0, 2));
        due.is(1, "walk(1)", () -> x.walk(1));
        due.is(2, "what is not known has its cells", () -> x.on(0, 0, 1));
    }

    /** "and the leases of these pieces are over": of no others. */
    private static void leasesEndAfterThreeSecondsDown() {
        BlockFleet x = Due.fleet(0, 6, 1, 6, 2, 6, 0, 6, 1, 6, 2, 6);
        x.limit(0);
        x.append(0, 1);
        x.append(x.file(), 2);
        due.copies(x, 0, 0, 1, 2);
        due.copies(x, 1, 3, 4, 5);
        x.up(2, false);
        x.pass(2);
        due.is(0, "the primary after 2 seconds", () -> x.piece(0, 3));
        due.is(10, "the end after 2 seconds", () -> x.piece(0, 4));
        x.pass(1);
        due.is(-1, "the primary after 3 seconds", () -> x.piece(0, 3));
        due.is(-1, "the end after 3 seconds", () -> x.piece(0, 4));
        due.is(3, "the primary of a piece without a copy there", () -> x.piece(1, 3));
        due.is(10, "the end of its lease", () -> x.piece(1, 4));
        x.append(0, 3);
        due.is(13, "the end of the next lease", () -> x.piece(0, 4));
        x.pass(1);
        due.is(0, "the next primary, while that one stays down", () -> x.piece(0, 3));
    }

    private static void allNodesDownForThreeSeconds() {
        BlockFleet x = fleet();
        for (int node = 0; node < 3; node++) {
            x.up(node, false);
        }
        x.pass(2);
        due.copies(x, 0, 0, 1, 2);
        due.is(1, "walk(0)", () -> x.walk(0));
        x.pass(1);
        due.copies(x, 0);
        due.is(1, "walk(0) without copies", () -> x.walk(0));
        x.pass(50);
        x.up(2, true);
        x.up(1, true);
        x.pass(1);
        due.copies(x, 0, 1, 2);
        due.is(2, "append then", () -> x.append(0, 3));
    }

    /** Step 1 begins with those that are not counted on any more, so that there is a place for one that comes back. */
    private static void uncountedNodesGoAheadOfThoseThatComeBack() {
        BlockFleet x = Due.fleet(0, 6, 1, 6, 2, 6, 3, 6);
        x.append(0, 1);
        x.up(2, false);
        x.pass(3);
        due.copies(x, 0, 0, 1, 3);
        x.limit(0);
        x.up(0, false);
        x.pass(2);
        x.up(2, true);
        x.pass(1);
        due.copies(x, 0, 1, 3, 2);
        x.up(0, true);
        x.pass(1);
        due.copies(x, 0, 1, 3, 2);
        due.is(0, "load of the one that came too late", () -> x.load(0));
    }

    // ---- 20 seconds deleted

    private static void isDeletedUntilTwentySeconds() {
        for (int second : new int[] {0, 1, 77}) {
            BlockFleet x = fleetAt(second);
            x.remove(0);
            due.is(BlockFleet.DELETED, "state at once", () -> x.state(0));
            passOneByOne(x, 19);
            due.is(BlockFleet.DELETED, "state after 19 seconds", () -> x.state(0));
            due.is(1, "pieces after 19 seconds", () -> x.pieces(0));
            due.is(0, "pieceAt after 19 seconds", () -> x.pieceAt(0, 0));
            due.is(1, "piece(0, 5) after 19 seconds", () -> x.piece(0, 5));
            x.pass(1);
            due.is(BlockFleet.GONE, "state after 20 seconds", () -> x.state(0));
            due.is(0, "pieces after 20 seconds", () -> x.pieces(0));
            due.noIndex("pieceAt after 20 seconds", () -> x.pieceAt(0, 0));
            due.is(0, "piece(0, 5) after 20 seconds", () -> x.piece(0, 5));
            x.pass(1);
            due.is(BlockFleet.GONE, "state after 21 seconds", () -> x.state(0));
            for (int seconds = 19; seconds <= 21; seconds++) {
                BlockFleet y = fleetAt(second);
                y.remove(0);
                y.pass(seconds);
                int want = seconds < 20 ? BlockFleet.DELETED : BlockFleet.GONE;
                due.is(want, "state after a call of " + seconds + " seconds", () -> y.state(0));
            }
        }
    }

    private static void isTakenBackUntilTwentySeconds() {
        for (int seconds = 0; seconds < 20; seconds++) {
            BlockFleet x = fleet();
            x.remove(0);
            passOneByOne(x, seconds);
            due.happens("restore after " + seconds + " seconds", () -> x.restore(0));
            due.is(BlockFleet.THERE, "state then", () -> x.state(0));
            x.pass(100);
            due.is(BlockFleet.THERE, "state later", () -> x.state(0));
            due.is(2, "append later", () -> x.append(0, 3));
        }
        BlockFleet y = fleet();
        y.remove(0);
        y.pass(20);
        due.noState("restore after 20 seconds", () -> y.restore(0));
    }

    private static void twentySecondsBeginAnew() {
        BlockFleet x = fleetAt(3);
        x.remove(0);
        x.pass(15);
        x.restore(0);
        x.remove(0);
        x.pass(19);
        due.is(BlockFleet.DELETED, "state 19 seconds after it was deleted again", () -> x.state(0));
        x.pass(1);
        due.is(BlockFleet.GONE, "state 20 seconds after that", () -> x.state(0));
    }

    private static void filesGoOneByOne() {
        BlockFleet x = fleet();
        x.snapshot(0);
        x.remove(0);
        x.pass(1);
        x.remove(1);
        x.pass(18);
        due.is(2, "files of the piece after 19 seconds", () -> x.piece(0, 5));
        x.pass(1);
        due.is(BlockFleet.GONE, "state of the first", () -> x.state(0));
        due.is(BlockFleet.DELETED, "state of the second", () -> x.state(1));
        due.is(1, "files of the piece after 20 seconds", () -> x.piece(0, 5));
        x.pass(1);
        due.is(BlockFleet.GONE, "state of the second, a second later", () -> x.state(1));
        due.is(0, "files of the piece after 21 seconds", () -> x.piece(0, 5));
        due.copies(x, 0, 0, 1, 2);
        x.pass(1);
        due.copies(x, 0);
    }

    /** Gone files go in step 2, behind the step in which nodes drop what is of gone pieces. */
    private static void copiesStayInTheTwentiethSecond() {
        BlockFleet x = fleet();
        x.remove(0);
        x.pass(20);
        due.copies(x, 0, 0, 1, 2);
        due.is(3, "good ones", () -> x.piece(0, 2));
        due.is(1, "load", () -> x.load(0));
        due.is(2, "a cell", () -> x.cellOn(2, 0, 1));
        x.pass(1);
        due.copies(x, 0);
        due.is(0, "load a second later", () -> x.load(0));
        due.is(-1, "a cell a second later", () -> x.cellOn(2, 0, 1));
        due.is(2, "the version a second later", () -> x.piece(0, 0));
    }

    /** In the second in which a file goes, its pieces are looked at once more. */
    private static void wrongCopiesGoInTheTwentiethSecond() {
        BlockFleet x = fleet();
        x.remove(0);
        x.pass(19);
        x.spoil(1, 0, 0);
        x.pass(1);
        due.copies(x, 0, 0, 2);
        due.is(0, "load of the one with the wrong cell", () -> x.load(1));
        due.is(1, "load of another one", () -> x.load(2));
    }

    private static void deletedPiecesAreMendedUntilTwentySeconds() {
        for (int seconds = 18; seconds <= 19; seconds++) {
            BlockFleet x = fleet();
            x.spoil(2, 0, 0);
            x.read(0, 0, 0, 2);
            x.remove(0);
            x.pass(seconds);
            x.limit(1);
            x.pass(1);
            due.is(seconds < 19 ? 3 : 2, "copies in the second " + (seconds + 1), () -> x.piece(0, 1));
        }
    }

    private static void deletedPiecesAreMovedUntilTwentySeconds() {
        for (int seconds = 18; seconds <= 19; seconds++) {
            BlockFleet x = fleet();
            x.append(0, 3);
            x.append(0, 4);
            x.append(0, 5);
            x.node(3, 6);
            x.remove(0);
            x.pass(seconds);
            x.balance(true);
            x.pass(1);
            due.is(seconds < 19 ? 1 : 0, "moved in the second " + (seconds + 1), () -> x.load(3));
        }
    }

    private static void deletedFilesShareUntilTwentySeconds() {
        for (int seconds = 19; seconds <= 20; seconds++) {
            BlockFleet x = fleet();
            x.snapshot(0);
            x.remove(0);
            x.pass(seconds);
            due.is(true, "put after " + seconds + " seconds", () -> x.put(1, 0, 0, 7));
            due.is(seconds < 20 ? 1 : 0, "the piece that is written then", () -> x.pieceAt(1, 0));
        }
    }

    // ---- 10 seconds of a lease

    private static void leaseHoldsForTenSeconds() {
        for (int second : new int[] {0, 1, 33}) {
            BlockFleet x = fleetAt(second);
            x.pass(10);
            x.append(0, 3);
            int version = x.piece(0, 0);
            passOneByOne(x, 9);
            due.is(0, "the primary after 9 seconds", () -> x.piece(0, 3));
            due.is(second + 20, "the end after 9 seconds", () -> x.piece(0, 4));
            x.put(0, 0, 0, 7);
            due.is(version, "the version after 9 seconds", () -> x.piece(0, 0));
            x.pass(1);
            due.is(-1, "the primary after 10 seconds", () -> x.piece(0, 3));
            due.is(-1, "the end after 10 seconds", () -> x.piece(0, 4));
            x.put(0, 0, 0, 8);
            due.is(version + 1, "the version after 10 seconds", () -> x.piece(0, 0));
            due.is(version + 1, "the version of a copy", () -> x.on(2, 0, 0));
            due.is(second + 30, "the end of the next lease", () -> x.piece(0, 4));
        }
    }

    private static void leaseIsNotMadeLonger() {
        BlockFleet x = fleet();
        for (int second = 1; second < 10; second++) {
            x.pass(1);
            x.put(0, 0, 0, second);
            due.is(10, "the end after a write in the second " + second, () -> x.piece(0, 4));
        }
        due.is(2, "the version", () -> x.piece(0, 0));
        x.pass(1);
        x.put(0, 0, 0, 10);
        due.is(20, "the end after a write in the second 10", () -> x.piece(0, 4));
        due.is(3, "the version", () -> x.piece(0, 0));
    }

    private static void leaseIsOverAtOnceWhenAWriteFails() {
        BlockFleet x = fleet();
        x.up(2, false);
        due.is(false, "put with a copy down", () -> x.put(0, 0, 0, 7));
        due.is(-1, "the primary", () -> x.piece(0, 3));
        due.is(-1, "the end", () -> x.piece(0, 4));
        due.is(2, "the version", () -> x.piece(0, 0));
        due.is(true, "put again in the same second", () -> x.put(0, 0, 0, 8));
        due.is(3, "the version", () -> x.piece(0, 0));
        due.is(10, "the end", () -> x.piece(0, 4));
    }

    private static void copiesThatAreDownStayUntilTheLeaseIsOver() {
        BlockFleet x = fleet();
        x.pass(8);
        x.up(1, false);
        x.pass(1);
        due.is(false, "put after 9 seconds", () -> x.put(0, 0, 0, 7));
        due.copies(x, 0, 0, 1, 2);
        BlockFleet y = fleet();
        y.pass(8);
        y.up(1, false);
        y.pass(2);
        due.is(true, "put after 10 seconds", () -> y.put(0, 0, 0, 7));
        due.copies(y, 0, 0, 2);
        due.is(true, "isCounted of the one that is down", () -> y.isCounted(1));
        due.is(1, "its load", () -> y.load(1));
    }
}
