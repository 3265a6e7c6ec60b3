/**
 * What can be asked of a fleet, as a text, to compare two fleets with. A look at four nodes and two pieces takes
 * some 180 of the 512 calls that an object is good for.
 */
final class Seen {
    private static final int MOST_NODES = 8;
    private static final int MOST_FILES = 20;

    private final BlockFleet x;
    private final int[] pieces;
    private final StringBuilder text = new StringBuilder();

    private Seen(BlockFleet x, int[] pieces) {
        this.x = x;
        this.pieces = pieces;
    }

    /** The second and the settings are seen by calls that change them, so this is the last look at a fleet. */
    static String all(BlockFleet x, int... pieces) {
        Seen seen = new Seen(x, pieces);
        seen.look();
        seen.tell("limit", () -> x.limit(3));
        seen.tell("balance", () -> x.balance(true));
        seen.tell("pass", () -> x.pass(1));
        seen.look();
        return seen.text.toString();
    }

    /** Answers whether it was an answer, and no exception's name. */
    private boolean tell(String told, Due.Call call) {
        Object answer = Due.answer(call);
        text.append(told).append(' ').append(answer).append('\n');
        return !(answer instanceof String);
    }

    private void look() {
        int nodes = 0;
        while (nodes <= MOST_NODES && tellNode(nodes)) {
            nodes++;
        }
        int files = 0;
        while (files <= MOST_FILES && tellFile(files)) {
            files++;
        }
        for (int piece : pieces) {
            tellPiece(piece, nodes);
        }
        for (int i = 0; i < 4; i++) {
            int what = i;
            tell("walk " + what, () -> x.walk(what));
        }
    }

    private boolean tellNode(int node) {
        return tell("load " + node, () -> x.load(node)) && tell("isCounted " + node, () -> x.isCounted(node));
    }

    private boolean tellFile(int file) {
        if (!tell("state " + file, () -> x.state(file))) {
            return false;
        }
        for (int i = 0; i < x.pieces(file); i++) {
            int place = i;
            tell("pieceAt " + file + " " + place, () -> x.pieceAt(file, place));
        }
        return true;
    }

    private void tellPiece(int piece, int nodes) {
        if (!tell("piece " + piece, () -> x.piece(piece, 0))) {
            return;
        }
        for (int i = 1; i < 6; i++) {
            int what = i;
            tell("piece " + piece + " " + what, () -> x.piece(piece, what));
        }
        for (int i = 0; i < x.piece(piece, 1); i++) {
            int place = i;
            tell("copyAt " + piece + " " + place, () -> x.copyAt(piece, place));
        }
        for (int i = 0; i < nodes; i++) {
            int node = i;
            if (x.on(node, piece, 0) != BlockFleet.NONE) {
                tellThing(node, piece);
            }
        }
    }

    private void tellThing(int node, int piece) {
        String told = node + " " + piece + " ";
        for (int i = 0; i < 3; i++) {
            int what = i;
            tell("on " + told + what, () -> x.on(node, piece, what));
        }
        for (int i = 0; i < 4; i++) {
            int cell = i;
            tell("cellOn " + told + cell, () -> x.cellOn(node, piece, cell));
        }
    }
}
