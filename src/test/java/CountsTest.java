/** How many there can be of everything: none, the last one that there can be, and one more. */
public final class CountsTest {
    private static final Due due = new Due();

    public static void main(String[] args) {
        noneOfAnything();
        nodesAreAtMostEight();
        roomIsForSoManyCopies();
        roomIsFreeAgain();
        copiesAreOnThreeNodesOrAsManyAsThereAre();
        piecesAreAtMostSixty();
        partedPiecesAreAtMostSixty();
        goneAndUnwrittenPiecesCount();
        cellsAreFour();
        filesAreAtMostTwenty();
        snapshotsAreFilesToo();
        goneFilesCount();
        piecesInAFileAreAtMostSix();
        aFullFileCanPart();
        anEmptyFile();
        secondsAreAtMost3000();
        refusedSecondsDoNotPassInPart();
        due.end();
    }

    private static void noneOfAnything() {
        BlockFleet x = new BlockFleet();
        due.noIndex("up(0, true) without nodes", () -> x.up(0, true));
        due.noIndex("isCounted(0) without nodes", () -> x.isCounted(0));
        due.noIndex("snapshot(0) without files", () -> x.snapshot(0));
        due.noIndex("append(0, 0) without files", () -> x.append(0, 0));
        due.noIndex("copyAt(0, 0) without pieces", () -> x.copyAt(0, 0));
        x.balance(true);
        x.limit(3);
        due.is(100, "pass(100) without anything", () -> x.pass(100));
        x.file();
        due.noState("append(0, 0) without nodes", () -> x.append(0, 0));
        due.is(101, "pass(1) without nodes", () -> x.pass(1));
        due.is(0, "node(0, 1)", () -> x.node(0, 1));
        due.noIndex("spoil(0, 0, 0) without pieces", () -> x.spoil(0, 0, 0));
        due.noIndex("on(0, 0, 0) without pieces", () -> x.on(0, 0, 0));
        due.noIndex("cellOn(0, 0, 0) without pieces", () -> x.cellOn(0, 0, 0));
        due.is(102, "pass(1) without pieces", () -> x.pass(1));
        due.is(0, "load(0)", () -> x.load(0));
    }

    private static BlockFleet nodes(int many) {
        BlockFleet x = new BlockFleet();
        for (int i = 0; i < many; i++) {
            x.node(i % 4, 1);
        }
        return x;
    }

    private static void nodesAreAtMostEight() {
        for (int many = 0; many < 8; many++) {
            int before = many;
            due.is(before, "node after " + before, () -> nodes(before).node(3, 12));
        }
        due.refusedState("node after 8", () -> nodes(8), x -> x.node(3, 12));
        due.is(true, "up(7, false) of the last", () -> nodes(8).up(7, false));
        due.refusedIndex("up(8, false)", () -> nodes(8), x -> x.up(8, false));
    }

    private static void roomIsForSoManyCopies() {
        for (int room = 1; room <= 12; room++) {
            int many = room;
            Due.Maker full = () -> fullNode(many);
            due.refusedState("append to a node with room for " + many + ", full", full, x -> x.append(many, 7));
            due.is(many, "its load", () -> full.make().load(0));
            due.is(many - 1, "the last piece", () -> full.make().pieceAt(many - 1, 0));
        }
    }

    private static BlockFleet fullNode(int room) {
        BlockFleet x = Due.fleet(0, room);
        for (int file = 0; file < room; file++) {
            x.append(file, 7);
            x.file();
        }
        return x;
    }

    /** "To drop a copy is that the node has it no more": what it had room for, it has room for again. */
    private static void roomIsFreeAgain() {
        BlockFleet x = fullNode(2);
        due.noState("append to a full node", () -> x.append(2, 7));
        x.spoil(0, 0, 0);
        due.is(-2, "read of the wrong cell", () -> x.read(0, 0, 0, 0));
        due.is(1, "load", () -> x.load(0));
        due.is(0, "append to the node that dropped one", () -> x.append(2, 7));
        due.is(2, "load, full again", () -> x.load(0));
        due.noState("append to the node that is full again", () -> x.append(0, 7));
    }

    private static void copiesAreOnThreeNodesOrAsManyAsThereAre() {
        int[] wants = {1, 2, 3, 3, 3, 3, 3, 3};
        for (int i = 0; i < wants.length; i++) {
            BlockFleet x = nodes(i + 1);
            x.append(x.file(), 7);
            due.is(wants[i], "copies with " + (i + 1) + " nodes", () -> x.piece(0, 1));
        }
        BlockFleet some = nodes(5);
        some.up(0, false);
        some.up(2, false);
        some.up(3, false);
        some.append(some.file(), 7);
        due.copies(some, 0, 1, 4);
    }

    /** One node and one file of six pieces, of which all are made anew, and the old ones are gone, time after time. */
    private static BlockFleet fleetOfPieces(int many) {
        BlockFleet x = Due.fleet(0, 12);
        for (int i = 0; i < 21; i++) {
            x.append(0, i);
        }
        for (int made = 6; made < many; made++) {
            int place = made % 6;
            if (place == 0) {
                x.snapshot(0);
            }
            x.put(0, place, 0, made);
            if (place == 5) {
                x.remove(made / 6);
                x.pass(21);
            }
        }
        return x;
    }

    private static void piecesAreAtMostSixty() {
        BlockFleet x = fleetOfPieces(59);
        x.file();
        x.file();
        due.noIndex("piece(59, 0) before it is made", () -> x.piece(59, 0));
        due.is(0, "append that makes the piece 59", () -> x.append(10, 7));
        due.is(59, "its number", () -> x.pieceAt(10, 0));
        due.is(2, "its version", () -> x.piece(59, 0));
        due.noState("append that would make the piece 60", () -> x.append(11, 7));
        due.is(1, "append that makes no piece", () -> x.append(10, 8));
        due.noIndex("piece(60, 0)", () -> x.piece(60, 0));
        Due.Maker full = () -> {
            BlockFleet y = fleetOfPieces(60);
            y.file();
            return y;
        };
        due.refusedState("append to an empty file, 60 pieces", full, y -> y.append(10, 7), 58, 59);
        due.is(51, "append to a piece, 60 pieces", () -> full.make().append(0, 7));
    }

    private static void partedPiecesAreAtMostSixty() {
        Due.Maker almost = () -> {
            BlockFleet x = fleetOfPieces(59);
            x.snapshot(0);
            return x;
        };
        due.is(true, "put that makes the piece 59", () -> almost.make().put(10, 0, 0, 7));
        due.is(51, "append that makes the piece 59", () -> almost.make().append(10, 7));
        Due.Maker full = () -> {
            BlockFleet x = fleetOfPieces(60);
            x.snapshot(0);
            return x;
        };
        due.refusedState("put that would make the piece 60", full, x -> x.put(10, 0, 0, 7), 54, 59);
        due.refusedState("append that would make the piece 60", full, x -> x.append(10, 7), 54, 59);
        due.is(54, "the piece that stays", () -> full.make().pieceAt(10, 0));
        due.is(true, "put without a snapshot", () -> fleetOfPieces(60).put(0, 0, 0, 7));
    }

    /** A refused call makes none, and a piece that is gone has been made. */
    private static void goneAndUnwrittenPiecesCount() {
        BlockFleet x = Due.fleet(0, 1);
        x.append(0, 1);
        x.file();
        due.noState("append without a place", () -> x.append(1, 1));
        x.remove(0);
        x.pass(21);
        due.is(0, "load when the first piece is gone", () -> x.load(0));
        due.is(0, "append with a place", () -> x.append(1, 1));
        due.is(1, "the number of the next piece", () -> x.pieceAt(1, 0));
        due.is(2, "the version of the gone one", () -> x.piece(0, 0));
        due.noIndex("the number after it", () -> x.piece(2, 0));
    }

    private static void cellsAreFour() {
        BlockFleet x = Due.fleet(0, 12);
        int[] wants = {0, 1, 2, 3, 10, 11, 12, 13, 20};
        for (int i = 0; i < wants.length; i++) {
            int number = i;
            due.is(wants[i], "append of the number " + i, () -> x.append(0, number));
            due.is(number % 4 + 1, "cells of its piece", () -> x.on(0, number / 4, 1));
            due.is(number / 4 + 1, "pieces", () -> x.pieces(0));
        }
        due.is(true, "put to the fourth cell", () -> x.put(0, 1, 3, 99));
        due.is(99, "the fourth cell", () -> x.cellOn(0, 1, 3));
        due.is(4, "cells, no more than there were", () -> x.on(0, 1, 1));
    }

    private static BlockFleet files(int many) {
        BlockFleet x = new BlockFleet();
        for (int i = 0; i < many; i++) {
            x.file();
        }
        return x;
    }

    private static void filesAreAtMostTwenty() {
        for (int many = 0; many < 20; many++) {
            int before = many;
            due.is(before, "file after " + before, () -> files(before).file());
        }
        due.refusedState("file after 20", () -> files(20), x -> x.file());
        due.is(0, "state of the last", () -> files(20).state(19));
        due.refusedIndex("state(20)", () -> files(20), x -> x.state(20));
    }

    private static void snapshotsAreFilesToo() {
        due.is(19, "snapshot after 19", () -> files(19).snapshot(0));
        due.refusedState("snapshot after 20", () -> files(20), x -> x.snapshot(0));
        due.refusedState("file after 19 and a snapshot", () -> {
            BlockFleet x = files(19);
            x.snapshot(18);
            return x;
        }, x -> x.file());
        Due.Maker withPieces = () -> {
            BlockFleet x = files(20);
            x.node(0, 12);
            x.append(3, 1);
            return x;
        };
        due.refusedState("snapshot after 20 of a file with a piece", withPieces, x -> x.snapshot(3), 0);
    }

    private static void goneFilesCount() {
        Due.Maker withGone = () -> {
            BlockFleet x = files(20);
            x.remove(0);
            x.remove(19);
            x.pass(20);
            return x;
        };
        due.refusedState("file after 20, two of them gone", withGone, x -> x.file());
        due.refusedState("snapshot after 20, two of them gone", withGone, x -> x.snapshot(1));
    }

    private static BlockFleet fileOf(int numbers) {
        BlockFleet x = Due.fleet(0, 12);
        for (int i = 0; i < numbers; i++) {
            x.append(0, i);
        }
        return x;
    }

    private static void piecesInAFileAreAtMostSix() {
        due.is(50, "append after 20 numbers", () -> fileOf(20).append(0, 7));
        due.is(53, "append after 23 numbers", () -> fileOf(23).append(0, 7));
        due.refusedState("append after 24 numbers", () -> fileOf(24), x -> x.append(0, 7), 4, 5);
        due.is(6, "pieces", () -> fileOf(24).pieces(0));
        due.is(5, "pieceAt(0, 5)", () -> fileOf(24).pieceAt(0, 5));
        due.refusedIndex("pieceAt(0, 6)", () -> fileOf(24), x -> x.pieceAt(0, 6));
        due.is(true, "put to the sixth", () -> fileOf(24).put(0, 5, 3, 7));
        due.refusedIndex("put to the seventh", () -> fileOf(24), x -> x.put(0, 6, 0, 7), 5);
        due.is(23, "read from the sixth", () -> fileOf(24).read(0, 5, 3, 0));
        due.refusedIndex("read from the seventh", () -> fileOf(24), x -> x.read(0, 6, 0, 0), 5);
        due.is(0, "append to another file then", () -> {
            BlockFleet x = fileOf(24);
            return x.append(x.file(), 7);
        });
    }

    /** A new piece in place of another one is no seventh. */
    private static void aFullFileCanPart() {
        BlockFleet x = fileOf(24);
        due.is(1, "snapshot of a full file", () -> x.snapshot(0));
        due.is(6, "pieces of it", () -> x.pieces(1));
        due.noState("append to the full snapshot", () -> x.append(1, 7));
        due.is(true, "put to it", () -> x.put(1, 5, 3, 7));
        due.is(6, "pieces then", () -> x.pieces(1));
        due.is(6, "the new piece", () -> x.pieceAt(1, 5));
        due.is(4, "the piece before it", () -> x.pieceAt(1, 4));
        BlockFleet y = fileOf(23);
        y.snapshot(0);
        due.is(53, "append to the last cell of the snapshot", () -> y.append(1, 7));
        due.is(6, "its pieces", () -> y.pieces(1));
        due.is(6, "its last piece", () -> y.pieceAt(1, 5));
    }

    private static void anEmptyFile() {
        BlockFleet x = Due.fleet(0, 12);
        due.is(0, "pieces", () -> x.pieces(0));
        due.noIndex("pieceAt(0, 0)", () -> x.pieceAt(0, 0));
        due.noIndex("put(0, 0, 0, 0)", () -> x.put(0, 0, 0, 0));
        due.noIndex("read(0, 0, 0, 0)", () -> x.read(0, 0, 0, 0));
        due.is(1, "snapshot", () -> x.snapshot(0));
        due.is(0, "pieces of the snapshot", () -> x.pieces(1));
        due.is(0, "append to it", () -> x.append(1, 7));
        due.is(0, "pieces of the first one, which is still empty", () -> x.pieces(0));
        x.remove(0);
        x.pass(20);
        due.is(BlockFleet.GONE, "state of the first one", () -> x.state(0));
        due.is(BlockFleet.THERE, "state of the snapshot", () -> x.state(1));
        due.is(7, "read of the snapshot", () -> x.read(1, 0, 0, 0));
    }

    private static BlockFleet at(int second) {
        BlockFleet x = Due.fleet(0, 6);
        for (int i = 0; i < second / 100; i++) {
            x.pass(100);
        }
        if (second % 100 != 0) {
            x.pass(second % 100);
        }
        return x;
    }

    private static void secondsAreAtMost3000() {
        due.is(1, "pass(1) at 0", () -> at(0).pass(1));
        due.is(3000, "pass(100) at 2900", () -> at(2900).pass(100));
        due.refusedState("pass(100) at 2901", () -> at(2901), x -> x.pass(100));
        due.is(3000, "pass(99) at 2901", () -> at(2901).pass(99));
        due.is(3000, "pass(1) at 2999", () -> at(2999).pass(1));
        due.refusedState("pass(2) at 2999", () -> at(2999), x -> x.pass(2));
        due.refusedState("pass(1) at 3000", () -> at(3000), x -> x.pass(1));
        due.refusedState("pass(100) at 3000", () -> at(3000), x -> x.pass(100));
        due.is(0, "append at 3000", () -> at(3000).append(0, 7));
    }

    private static void refusedSecondsDoNotPassInPart() {
        BlockFleet x = at(2998);
        x.append(0, 7);
        x.up(0, false);
        due.noState("pass(3) at 2998", () -> x.pass(3));
        due.is(2999, "pass(1) then", () -> x.pass(1));
        due.is(3000, "pass(1) after it", () -> x.pass(1));
        due.is(true, "isCounted after two seconds", () -> x.isCounted(0));
        due.is(3008, "the end of a lease, beyond the last second", () -> x.piece(0, 4));
        due.is(0, "its primary", () -> x.piece(0, 3));
    }
}
