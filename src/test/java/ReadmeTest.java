/** The example of README.md, line by line, so that it stays true. */
public final class ReadmeTest {
    private static final Due due = new Due();

    public static void main(String[] args) {
        BlockFleet fleet = new BlockFleet();
        due.is(0, "node(0, 6)", () -> fleet.node(0, 6));
        due.is(1, "node(1, 6)", () -> fleet.node(1, 6));
        due.is(2, "node(2, 6)", () -> fleet.node(2, 6));
        int file = fleet.file();
        int at = fleet.append(file, 42);
        due.is(0, "append", () -> at);
        int kept = fleet.snapshot(file);
        due.is(true, "put", () -> fleet.put(file, at / 10, at % 10, 7));
        due.is(true, "up(0, false)", () -> fleet.up(0, false));
        due.is(true, "isCounted(0) of one that just died", () -> fleet.isCounted(0));
        due.is(3, "pass(3)", () -> fleet.pass(3));
        due.is(false, "isCounted(0)", () -> fleet.isCounted(0));
        due.is(7, "read of the file", () -> fleet.read(file, at / 10, at % 10, 1));
        due.is(42, "read of the snapshot", () -> fleet.read(kept, at / 10, at % 10, 1));
        due.is(2, "walk(1)", () -> fleet.walk(1));
        failedWriteStays();
        due.end();
    }

    /** What README.md says of a write that failed. */
    private static void failedWriteStays() {
        BlockFleet x = Due.fleet(0, 6, 1, 6, 2, 6);
        x.append(0, 1);
        x.up(2, false);
        due.is(BlockFleet.NONE, "append with a copy down", () -> x.append(0, 2));
        due.is(2, "what was written on a copy that is up", () -> x.cellOn(1, 0, 1));
        due.is(2, "append again, behind it", () -> x.append(0, 2));
        due.copies(x, 0, 0, 1);
    }
}
