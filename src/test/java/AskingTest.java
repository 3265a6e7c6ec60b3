/** Promises 18 to 21 and 24, and the constants. */
public final class AskingTest {
    private static final Due due = new Due();

    public static void main(String[] args) {
        constants();
        promise18Piece();
        promise19CopyAt();
        promise20On();
        promise21CellOn();
        promise24Walk();
        due.end();
    }

    private static BlockFleet fleet() {
        BlockFleet x = new BlockFleet();
        x.node(0, 6);
        x.node(1, 6);
        x.node(2, 6);
        x.node(3, 6);
        x.file();
        x.append(0, 10);
        x.append(0, 11);
        return x;
    }

    private static void constants() {
        due.is(-1, "NONE", () -> BlockFleet.NONE);
        due.is(-2, "LOST", () -> BlockFleet.LOST);
        due.is(0, "THERE", () -> BlockFleet.THERE);
        due.is(1, "DELETED", () -> BlockFleet.DELETED);
        due.is(2, "GONE", () -> BlockFleet.GONE);
    }

    private static void promise18Piece() {
        BlockFleet x = fleet();
        due.noIndex("piece(-1, 0)", () -> x.piece(-1, 0));
        due.noIndex("piece(1, 6)", () -> x.piece(1, 6));
        due.noArgument("piece(0, -1)", () -> x.piece(0, -1));
        due.noArgument("piece(0, 6)", () -> x.piece(0, 6));
        int[] wants = {2, 3, 3, 0, 10, 1};
        for (int i = 0; i < wants.length; i++) {
            int what = i;
            due.is(wants[what], "piece(0, " + what + ")", () -> x.piece(0, what));
        }
        x.up(2, false);
        due.is(3, "copies", () -> x.piece(0, 1));
        due.is(2, "good ones", () -> x.piece(0, 2));
        x.snapshot(0);
        due.is(2, "files", () -> x.piece(0, 5));
        x.remove(1);
        due.is(2, "files, one deleted", () -> x.piece(0, 5));
        x.pass(9);
        due.is(-1, "the lease, which an uncounted node ended", () -> x.piece(0, 4));
        x.pass(11);
        due.is(1, "files, one gone", () -> x.piece(0, 5));
    }

    private static void promise19CopyAt() {
        BlockFleet x = fleet();
        due.noIndex("copyAt(-1, 0)", () -> x.copyAt(-1, 0));
        due.noIndex("copyAt(1, 0)", () -> x.copyAt(1, 0));
        due.noIndex("copyAt(0, -1)", () -> x.copyAt(0, -1));
        due.noIndex("copyAt(0, 3)", () -> x.copyAt(0, 3));
        due.is(2, "copyAt(0, 2)", () -> x.copyAt(0, 2));
        x.up(0, false);
        due.is(0, "copyAt(0, 0)", () -> x.copyAt(0, 0));
        x.put(0, 0, 0, 1);
        due.is(1, "copyAt(0, 0) after a lease without it", () -> x.copyAt(0, 0));
        due.noIndex("copyAt(0, 2) after that", () -> x.copyAt(0, 2));
    }

    private static void promise20On() {
        BlockFleet x = fleet();
        due.noIndex("on(-1, 0, 0)", () -> x.on(-1, 0, 0));
        due.noIndex("on(4, 0, 0)", () -> x.on(4, 0, 0));
        due.noIndex("on(0, -1, 0)", () -> x.on(0, -1, 0));
        due.noIndex("on(0, 1, 3)", () -> x.on(0, 1, 3));
        due.noArgument("on(0, 0, -1)", () -> x.on(0, 0, -1));
        due.noArgument("on(3, 0, 3)", () -> x.on(3, 0, 3));
        due.is(2, "on(0, 0, 0)", () -> x.on(0, 0, 0));
        due.is(2, "on(0, 0, 1)", () -> x.on(0, 0, 1));
        due.is(0, "on(0, 0, 2)", () -> x.on(0, 0, 2));
        x.append(0, 12);
        x.append(0, 13);
        x.spoil(0, 0, 0);
        x.spoil(0, 0, 3);
        due.is(9, "on(0, 0, 2), spoiled", () -> x.on(0, 0, 2));
        for (int i = 0; i < 3; i++) {
            int what = i;
            due.is(-1, "on(3, 0, " + what + ")", () -> x.on(3, 0, what));
        }
    }

    private static void promise21CellOn() {
        BlockFleet x = fleet();
        due.noIndex("cellOn(-1, 0, 0)", () -> x.cellOn(-1, 0, 0));
        due.noIndex("cellOn(4, 0, 0)", () -> x.cellOn(4, 0, 0));
        due.noIndex("cellOn(0, -1, 0)", () -> x.cellOn(0, -1, 0));
        due.noIndex("cellOn(0, 1, 0)", () -> x.cellOn(0, 1, 0));
        due.noIndex("cellOn(0, 0, -1)", () -> x.cellOn(0, 0, -1));
        due.noIndex("cellOn(0, 0, 4)", () -> x.cellOn(0, 0, 4));
        due.is(11, "cellOn(2, 0, 1)", () -> x.cellOn(2, 0, 1));
        due.is(-1, "cellOn(2, 0, 2)", () -> x.cellOn(2, 0, 2));
        due.is(-1, "cellOn(3, 0, 0)", () -> x.cellOn(3, 0, 0));
        x.spoil(2, 0, 1);
        x.up(2, false);
        due.is(11, "cellOn(2, 0, 1), wrong and down", () -> x.cellOn(2, 0, 1));
    }

    private static void promise24Walk() {
        BlockFleet x = new BlockFleet();
        x.node(0, 6);
        x.node(0, 6);
        x.node(1, 6);
        x.limit(0);
        x.file();
        x.append(0, 1);
        due.noArgument("walk(-1)", () -> x.walk(-1));
        due.noArgument("walk(4)", () -> x.walk(4));
        walks(x, 0, 0, 0, 0);
        x.spoil(2, 0, 0);
        x.read(0, 0, 0, 1);
        walks(x, 0, 1, 0, 1);
        x.up(0, false);
        walks(x, 0, 1, 0, 1);
        x.up(1, false);
        walks(x, 1, 1, 0, 1);
        x.pass(3);
        walks(x, 1, 1, 0, 0);
        x.snapshot(0);
        walks(x, 1, 1, 0, 0);
        x.remove(0);
        x.remove(1);
        walks(x, 1, 1, 0, 0);
        x.pass(20);
        walks(x, 0, 0, 0, 0);
        BlockFleet one = new BlockFleet();
        one.node(0, 6);
        one.file();
        one.append(0, 1);
        walks(one, 0, 1, 0, 0);
    }

    private static void walks(BlockFleet x, int lost, int few, int many, int misplaced) {
        due.is(lost, "walk(0)", () -> x.walk(0));
        due.is(few, "walk(1)", () -> x.walk(1));
        due.is(many, "walk(2)", () -> x.walk(2));
        due.is(misplaced, "walk(3)", () -> x.walk(3));
    }
}
