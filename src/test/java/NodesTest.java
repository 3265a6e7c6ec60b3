/** Promises 1 to 7, 22 and 23: a new object, and the calls about nodes. */
public final class NodesTest {
    private static final Due due = new Due();

    public static void main(String[] args) {
        promise1NewObject();
        promise2Node();
        promise3Up();
        promise4Spoil();
        promise5Limit();
        promise6Balance();
        promise7Pass();
        promise22Load();
        promise23IsCounted();
        due.end();
    }

    /** Four nodes in four racks, one file, two numbers in its one piece, on the nodes 0 to 2. */
    private static BlockFleet smallFleet() {
        BlockFleet x = new BlockFleet();
        for (int rack = 0; rack < 4; rack++) {
            x.node(rack, 6);
        }
        x.file();
        x.append(0, 10);
        x.append(0, 11);
        return x;
    }

    private static void promise1NewObject() {
        BlockFleet x = new BlockFleet();
        due.noIndex("load(0) of a new object", () -> x.load(0));
        due.noIndex("state(0) of a new object", () -> x.state(0));
        due.noIndex("piece(0, 0) of a new object", () -> x.piece(0, 0));
        for (int what = 0; what < 4; what++) {
            int asked = what;
            due.is(0, "walk of a new object", () -> x.walk(asked));
        }
        due.is(1, "the first limit", () -> x.limit(2));
        due.is(false, "balancing at first", () -> x.balance(true));
        due.is(1, "the first second", () -> x.pass(1));
    }

    private static void promise2Node() {
        BlockFleet x = new BlockFleet();
        due.noIndex("node(-1, 1)", () -> x.node(-1, 1));
        due.noIndex("node(4, 1)", () -> x.node(4, 1));
        due.noIndex("node(4, 0)", () -> x.node(4, 0));
        due.noArgument("node(0, 0)", () -> x.node(0, 0));
        due.noArgument("node(0, 13)", () -> x.node(0, 13));
        due.noArgument("node(0, -1)", () -> x.node(0, -1));
        due.is(0, "node(0, 1)", () -> x.node(0, 1));
        due.is(1, "node(3, 12)", () -> x.node(3, 12));
        due.is(true, "isCounted(1)", () -> x.isCounted(1));
        due.is(true, "up of a new node", () -> x.up(1, true));
        due.is(0, "load(1)", () -> x.load(1));
        for (int i = 2; i < 8; i++) {
            int number = i;
            due.is(number, "node(1, 2)", () -> x.node(1, 2));
        }
        due.noState("the ninth node", () -> x.node(0, 1));
        due.noArgument("the ninth node, without room", () -> x.node(0, 0));
        due.noIndex("the ninth node, in no rack", () -> x.node(9, 0));
        due.noIndex("load(8)", () -> x.load(8));
    }

    private static void promise3Up() {
        BlockFleet x = smallFleet();
        due.noIndex("up(-1, true)", () -> x.up(-1, true));
        due.noIndex("up(4, true)", () -> x.up(4, true));
        due.is(true, "up(0, false)", () -> x.up(0, false));
        due.is(false, "up(0, false) again", () -> x.up(0, false));
        due.is(2, "good ones", () -> x.piece(0, 2));
        due.is(3, "copies", () -> x.piece(0, 1));
        due.is(false, "up(0, true)", () -> x.up(0, true));
        due.is(true, "up(0, true) again", () -> x.up(0, true));
        due.is(3, "good ones again", () -> x.piece(0, 2));
    }

    private static void promise4Spoil() {
        BlockFleet x = smallFleet();
        due.noIndex("spoil(-1, 0, 0)", () -> x.spoil(-1, 0, 0));
        due.noIndex("spoil(4, 0, 0)", () -> x.spoil(4, 0, 0));
        due.noIndex("spoil(0, -1, 0)", () -> x.spoil(0, -1, 0));
        due.noIndex("spoil(0, 1, 0)", () -> x.spoil(0, 1, 0));
        due.noIndex("spoil(0, 0, -1)", () -> x.spoil(0, 0, -1));
        due.noIndex("spoil(0, 0, 4)", () -> x.spoil(0, 0, 4));
        due.noIndex("spoil(3, 0, 4)", () -> x.spoil(3, 0, 4));
        due.noState("spoil on a node without it", () -> x.spoil(3, 0, 0));
        due.noState("spoil behind its cells", () -> x.spoil(0, 0, 2));
        due.is(false, "spoil(0, 0, 1)", () -> x.spoil(0, 0, 1));
        due.is(true, "spoil(0, 0, 1) again", () -> x.spoil(0, 0, 1));
        due.is(2, "the wrong cells", () -> x.on(0, 0, 2));
        due.is(false, "spoil(0, 0, 0)", () -> x.spoil(0, 0, 0));
        due.is(3, "the wrong cells", () -> x.on(0, 0, 2));
        due.is(0, "the wrong cells elsewhere", () -> x.on(1, 0, 2));
        due.is(11, "a wrong number", () -> x.cellOn(0, 0, 1));
        due.is(true, "put over it", () -> x.put(0, 0, 1, 5));
        due.is(1, "the wrong cells after put", () -> x.on(0, 0, 2));
    }

    private static void promise5Limit() {
        BlockFleet x = new BlockFleet();
        due.noArgument("limit(-1)", () -> x.limit(-1));
        due.noArgument("limit(4)", () -> x.limit(4));
        due.is(1, "limit(3)", () -> x.limit(3));
        due.is(3, "limit(0)", () -> x.limit(0));
        due.is(0, "limit(2)", () -> x.limit(2));
    }

    private static void promise6Balance() {
        BlockFleet x = new BlockFleet();
        due.is(false, "balance(false)", () -> x.balance(false));
        due.is(false, "balance(true)", () -> x.balance(true));
        due.is(true, "balance(true) again", () -> x.balance(true));
        due.is(true, "balance(false)", () -> x.balance(false));
    }

    private static void promise7Pass() {
        BlockFleet x = new BlockFleet();
        due.noArgument("pass(0)", () -> x.pass(0));
        due.noArgument("pass(-5)", () -> x.pass(-5));
        due.noArgument("pass(101)", () -> x.pass(101));
        due.is(1, "pass(1)", () -> x.pass(1));
        for (int i = 1; i < 30; i++) {
            x.pass(100);
        }
        due.noState("pass(100) to 3001", () -> x.pass(100));
        due.is(3000, "pass(99)", () -> x.pass(99));
        due.noState("pass(1) to 3001", () -> x.pass(1));
        due.noArgument("pass(101) at the end", () -> x.pass(101));
        due.noArgument("pass of the greatest int", () -> x.pass(Integer.MAX_VALUE));
    }

    private static void promise22Load() {
        BlockFleet x = smallFleet();
        due.noIndex("load(-1)", () -> x.load(-1));
        due.noIndex("load(4)", () -> x.load(4));
        due.is(1, "load(0)", () -> x.load(0));
        due.is(0, "load(3)", () -> x.load(3));
        x.up(0, false);
        x.pass(3);
        due.is(1, "load(0) of what is not known", () -> x.load(0));
        due.is(1, "load(3) after mending", () -> x.load(3));
    }

    private static void promise23IsCounted() {
        BlockFleet x = smallFleet();
        due.noIndex("isCounted(-1)", () -> x.isCounted(-1));
        due.noIndex("isCounted(4)", () -> x.isCounted(4));
        x.up(3, false);
        x.pass(2);
        due.is(true, "isCounted after 2 seconds", () -> x.isCounted(3));
        x.up(3, false);
        x.pass(1);
        due.is(false, "isCounted after 3 seconds", () -> x.isCounted(3));
        x.up(3, true);
        due.is(false, "isCounted before a second is seen", () -> x.isCounted(3));
        x.up(3, false);
        x.pass(1);
        due.is(false, "isCounted of one that was not up in a second", () -> x.isCounted(3));
        x.up(3, true);
        x.pass(1);
        due.is(true, "isCounted from that second on", () -> x.isCounted(3));
        x.up(3, false);
        x.pass(2);
        x.up(3, true);
        x.up(3, false);
        x.pass(2);
        due.is(true, "isCounted of one that was up in between", () -> x.isCounted(3));
        x.pass(1);
        due.is(false, "isCounted 3 seconds after that", () -> x.isCounted(3));
    }
}
