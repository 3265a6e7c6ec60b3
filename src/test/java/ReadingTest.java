/** Promise 14: reading. */
public final class ReadingTest {
    private static final Due due = new Due();

    public static void main(String[] args) {
        promise14WrongInput();
        promise14WhereItReads();
        promise14WrongCells();
        promise14EndsTheLease();
        promise14TheFirstInTheirOrder();
        promise14AnotherOneAndSoOn();
        due.end();
    }

    private static BlockFleet fleet() {
        BlockFleet x = new BlockFleet();
        x.node(0, 6);
        x.node(1, 6);
        x.node(2, 6);
        x.file();
        x.append(0, 1);
        x.append(0, 2);
        return x;
    }

    private static void promise14WrongInput() {
        BlockFleet x = fleet();
        due.noIndex("read(-1, 0, 0, 0)", () -> x.read(-1, 0, 0, 0));
        due.noIndex("read(1, 0, 0, 0)", () -> x.read(1, 0, 0, 0));
        due.noIndex("read(0, -1, 0, 0)", () -> x.read(0, -1, 0, 0));
        due.noIndex("read(0, 1, 0, 0)", () -> x.read(0, 1, 0, 0));
        due.noIndex("read(0, 0, -1, 0)", () -> x.read(0, 0, -1, 0));
        due.noIndex("read(0, 0, 4, 0)", () -> x.read(0, 0, 4, 0));
        due.noIndex("read(0, 0, 0, -1)", () -> x.read(0, 0, 0, -1));
        due.noIndex("read(0, 0, 0, 4)", () -> x.read(0, 0, 0, 4));
        due.is(1, "read(0, 0, 0, 3)", () -> x.read(0, 0, 0, 3));
        due.is(-1, "read(0, 0, 2, 0)", () -> x.read(0, 0, 2, 0));
        due.is(-1, "read(0, 0, 3, 0)", () -> x.read(0, 0, 3, 0));
        x.remove(0);
        due.noState("read from a deleted file", () -> x.read(0, 0, 0, 0));
        due.noIndex("read from a deleted file, no cell", () -> x.read(0, 0, 4, 0));
        x.pass(20);
        due.noIndex("read from a gone file", () -> x.read(0, 0, 0, 0));
    }

    private static void promise14WhereItReads() {
        BlockFleet x = fleet();
        x.up(2, false);
        x.append(0, 3);
        x.up(2, true);
        x.append(0, 4);
        due.is(-1, "read in the rack 2, where it is padded", () -> x.read(0, 0, 2, 2));
        due.is(3, "read in the rack 1", () -> x.read(0, 0, 2, 1));
        due.is(3, "read in the rack 3, from the first", () -> x.read(0, 0, 2, 3));
        x.up(2, false);
        due.is(3, "read in the rack 2, from the first", () -> x.read(0, 0, 2, 2));
    }

    private static void promise14WrongCells() {
        BlockFleet x = fleet();
        x.spoil(1, 0, 0);
        due.is(2, "read of another cell", () -> x.read(0, 0, 1, 1));
        due.is(3, "copies", () -> x.piece(0, 1));
        due.is(1, "read of the wrong cell", () -> x.read(0, 0, 0, 1));
        due.is(2, "copies", () -> x.piece(0, 1));
        due.is(-1, "what the node has", () -> x.on(1, 0, 0));
        due.is(0, "its load", () -> x.load(1));
        due.is(2, "the second copy", () -> x.copyAt(0, 1));
        x.spoil(0, 0, 0);
        x.spoil(2, 0, 0);
        due.is(-2, "read with all wrong", () -> x.read(0, 0, 0, 1));
        due.is(0, "copies", () -> x.piece(0, 1));
        due.is(-2, "read with none", () -> x.read(0, 0, 1, 1));
        due.is(1, "lost", () -> x.walk(0));
        due.noState("append with none", () -> x.append(0, 1));
        BlockFleet y = fleet();
        for (int node = 0; node < 3; node++) {
            y.up(node, false);
        }
        due.is(-2, "read with all down", () -> y.read(0, 0, 0, 0));
        due.is(3, "copies", () -> y.piece(0, 1));
        due.is(-2, "read of no cell with all down", () -> y.read(0, 0, 3, 0));
    }

    private static void promise14EndsTheLease() {
        BlockFleet x = fleet();
        x.spoil(2, 0, 1);
        due.is(2, "read from another one than the primary", () -> x.read(0, 0, 1, 2));
        due.is(0, "the primary", () -> x.piece(0, 3));
        x.spoil(0, 0, 1);
        due.is(2, "read from the primary", () -> x.read(0, 0, 1, 0));
        due.is(-1, "the primary", () -> x.piece(0, 3));
        due.is(2, "append", () -> x.append(0, 5));
        due.is(1, "the next primary", () -> x.piece(0, 3));
    }

    /** "the first one in the rack, or, without one, the first one": by the order of the copies, not by numbers. */
    private static void promise14TheFirstInTheirOrder() {
        for (int rack = 0; rack < 4; rack++) {
            BlockFleet x = Due.fleet(0, 6, 0, 6, 1, 6);
            x.limit(0);
            x.append(0, 1);
            x.up(0, false);
            x.pass(3);
            x.up(0, true);
            x.pass(1);
            due.copies(x, 0, 2, 1, 0);
            int first = rack == 0 ? 1 : 2;
            x.spoil(first, 0, 0);
            int reader = rack;
            due.is(1, "read in the rack " + rack, () -> x.read(0, 0, 0, reader));
            due.is(-1, "what the first one has then, read in the rack " + rack, () -> x.on(first, 0, 0));
            BlockFleet y = Due.fleet(0, 6, 0, 6, 1, 6);
            y.append(0, 1);
            due.copies(y, 0, 0, 2, 1);
            y.up(0, false);
            y.spoil(first, 0, 0);
            due.is(1, "read in the rack " + rack + " with a node down", () -> y.read(0, 0, 0, reader));
            due.is(-1, "what the first one that is up has then", () -> y.on(first, 0, 0));
        }
    }

    private static void promise14AnotherOneAndSoOn() {
        BlockFleet x = fleet();
        x.spoil(1, 0, 1);
        x.spoil(0, 0, 1);
        due.is(2, "read with two of three wrong", () -> x.read(0, 0, 1, 1));
        due.copies(x, 0, 2);
        due.is(0, "load of the first that was wrong", () -> x.load(1));
        due.is(0, "load of the second that was wrong", () -> x.load(0));
        BlockFleet y = Due.fleet(0, 6, 0, 6, 1, 6);
        y.append(0, 1);
        due.copies(y, 0, 0, 2, 1);
        y.spoil(0, 0, 0);
        y.spoil(2, 0, 0);
        due.is(1, "read in a rack with another one, which is not wrong", () -> y.read(0, 0, 0, 0));
        due.copies(y, 0, 2, 1);
        due.is(1, "wrong still on the one in the other rack", () -> y.on(2, 0, 2));
        due.is(1, "read in that rack", () -> y.read(0, 0, 0, 1));
        due.copies(y, 0, 1);
    }
}
