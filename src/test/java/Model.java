import java.util.ArrayList;
import java.util.List;
import java.util.TreeMap;

/**
 * The document once more, written as literally and as wastefully as it goes, to compare the program
 * with. A call that may throw in its middle is tried on a copy of all there is, and the copy thrown away.
 */
final class Model {
    static final class Thing {
        int version;
        List<Integer> cells = new ArrayList<>();
        List<Boolean> wrong = new ArrayList<>();

        Thing copy() {
            Thing t = new Thing();
            t.version = version;
            t.cells.addAll(cells);
            t.wrong.addAll(wrong);
            return t;
        }

        boolean spoiled() {
            return wrong.contains(true);
        }
    }

    static final class World {
        int now = 0, limit = 1;
        boolean balancing = false;
        List<int[]> nodes = new ArrayList<>(); // rack, room, up, counted, down since, looked at
        List<TreeMap<Integer, Thing>> has = new ArrayList<>();
        List<int[]> pieces = new ArrayList<>(); // version, primary, lease end, mended in
        List<List<Integer>> copies = new ArrayList<>();
        List<int[]> files = new ArrayList<>(); // state, deleted in
        List<List<Integer>> rows = new ArrayList<>();

        World copy() {
            World w = new World();
            w.now = now;
            w.limit = limit;
            w.balancing = balancing;
            for (int[] n : nodes) w.nodes.add(n.clone());
            for (TreeMap<Integer, Thing> h : has) {
                TreeMap<Integer, Thing> m = new TreeMap<>();
                h.forEach((k, v) -> m.put(k, v.copy()));
                w.has.add(m);
            }
            for (int[] p : pieces) w.pieces.add(p.clone());
            for (List<Integer> c : copies) w.copies.add(new ArrayList<>(c));
            for (int[] f : files) w.files.add(f.clone());
            for (List<Integer> r : rows) w.rows.add(new ArrayList<>(r));
            return w;
        }
    }

    private static final int RACK = 0, ROOM = 1, UP = 2, COUNTED = 3, SINCE = 4, LOOKED = 5;
    private static final int VERSION = 0, PRIMARY = 1, END = 2, MENDED = 3;
    World w = new World();

    private static void index(boolean ok) {
        if (!ok) throw new IndexOutOfBoundsException();
    }

    private static void argument(boolean ok) {
        if (!ok) throw new IllegalArgumentException();
    }

    private static void state(boolean ok) {
        if (!ok) throw new IllegalStateException();
    }

    private static boolean within(int x, int from, int to) {
        return x >= from && x <= to;
    }

    private void nodeIs(int n) {
        index(within(n, 0, w.nodes.size() - 1));
    }

    private void pieceIs(int p) {
        index(within(p, 0, w.pieces.size() - 1));
    }

    private void fileIs(int f) {
        index(within(f, 0, w.files.size() - 1));
    }

    private void placeIs(int f, int place) {
        index(within(place, 0, w.rows.get(f).size() - 1));
    }

    private boolean is(int n, int what) {
        return w.nodes.get(n)[what] == 1;
    }

    private boolean room(int n) {
        return w.has.get(n).size() < w.nodes.get(n)[ROOM];
    }

    int inFiles(int p) {
        int many = 0;
        for (int f = 0; f < w.files.size(); f++) {
            if (w.files.get(f)[0] != 2 && w.rows.get(f).contains(p)) many++;
        }
        return many;
    }

    private boolean good(int n, int p) {
        Thing t = w.has.get(n).get(p);
        return is(n, UP) && t.version == w.pieces.get(p)[VERSION];
    }

    private List<Integer> goodOnes(int p) {
        List<Integer> all = new ArrayList<>();
        for (int n : w.copies.get(p)) if (good(n, p)) all.add(n);
        return all;
    }

    private int soundOne(int p) {
        for (int n : goodOnes(p)) if (!w.has.get(n).get(p).spoiled()) return n;
        return -1;
    }

    private int inRack(int p, int rack) {
        int many = 0;
        for (int n : w.copies.get(p)) if (w.nodes.get(n)[RACK] == rack) many++;
        return many;
    }

    private int best(int p) {
        int best = -1;
        long least = Long.MAX_VALUE;
        for (int n = 0; n < w.nodes.size(); n++) {
            if (!is(n, UP) || !is(n, COUNTED) || !room(n) || w.has.get(n).containsKey(p)) continue;
            long need = inRack(p, w.nodes.get(n)[RACK]) * 10000L + w.has.get(n).size() * 100L + n;
            if (need < least) {
                least = need;
                best = n;
            }
        }
        return best;
    }

    private void over(int p) {
        w.pieces.get(p)[PRIMARY] = -1;
        w.pieces.get(p)[END] = -1;
    }

    private boolean leased(int p) {
        return w.pieces.get(p)[PRIMARY] >= 0 && w.now < w.pieces.get(p)[END];
    }

    private void drop(int n, int p) {
        w.has.get(n).remove(p);
        w.copies.get(p).remove((Integer) n);
        if (w.pieces.get(p)[PRIMARY] == n) over(p);
    }

    private int newPiece() {
        state(w.pieces.size() < 60);
        w.pieces.add(new int[] {1, -1, -1, -1});
        w.copies.add(new ArrayList<>());
        return w.pieces.size() - 1;
    }

    private void give(int n, int p, Thing like) {
        Thing t = like == null ? new Thing() : like.copy();
        t.version = w.pieces.get(p)[VERSION];
        w.has.get(n).put(p, t);
        w.copies.get(p).add(n);
    }

    int node(int rack, int room) {
        index(within(rack, 0, 3));
        argument(within(room, 1, 12));
        state(w.nodes.size() < 8);
        w.nodes.add(new int[] {rack, room, 1, 1, 0, -1});
        w.has.add(new TreeMap<>());
        return w.nodes.size() - 1;
    }

    boolean up(int n, boolean up) {
        nodeIs(n);
        boolean was = is(n, UP);
        w.nodes.get(n)[UP] = up ? 1 : 0;
        if (was && !up) w.nodes.get(n)[SINCE] = w.now;
        return was;
    }

    boolean spoil(int n, int p, int cell) {
        nodeIs(n);
        pieceIs(p);
        index(within(cell, 0, 3));
        Thing t = w.has.get(n).get(p);
        state(t != null && cell < t.cells.size());
        return t.wrong.set(cell, true);
    }

    int limit(int many) {
        argument(within(many, 0, 3));
        int was = w.limit;
        w.limit = many;
        return was;
    }

    boolean balance(boolean on) {
        boolean was = w.balancing;
        w.balancing = on;
        return was;
    }

    int pass(int seconds) {
        argument(within(seconds, 1, 100));
        state(w.now + seconds <= 3000);
        for (int k = 0; k < seconds; k++) second();
        return w.now;
    }

    private void second() {
        w.now++;
        reports();
        for (int f = 0; f < w.files.size(); f++) {
            if (w.files.get(f)[0] == 1 && w.now >= w.files.get(f)[1] + 20) {
                w.files.get(f)[0] = 2;
                w.rows.get(f).clear();
            }
        }
        for (int n = 0; n < w.nodes.size(); n++) {
            if (!is(n, UP) || w.has.get(n).isEmpty()) continue;
            Integer next = w.has.get(n).higherKey(w.nodes.get(n)[LOOKED]);
            if (next == null) next = w.has.get(n).firstKey();
            w.nodes.get(n)[LOOKED] = next;
            if (w.has.get(n).get(next).spoiled()) drop(n, next);
        }
        for (int k = 0; k < w.limit; k++) mend();
        for (int p = 0; p < w.pieces.size(); p++) {
            if (inFiles(p) > 0) state(w.copies.get(p).size() <= 3); // the document never lets there be more
        }
        if (w.balancing) move();
    }

    private void reports() {
        for (int n = 0; n < w.nodes.size(); n++) {
            if (is(n, UP) || w.now - w.nodes.get(n)[SINCE] < 3) continue;
            w.nodes.get(n)[COUNTED] = 0;
            for (int p = 0; p < w.pieces.size(); p++) {
                if (w.copies.get(p).remove((Integer) n)) over(p);
            }
        }
        for (int n = 0; n < w.nodes.size(); n++) if (is(n, UP)) w.nodes.get(n)[COUNTED] = 1;
        for (int n = 0; n < w.nodes.size(); n++) {
            if (!is(n, UP)) continue;
            for (int p : new ArrayList<>(w.has.get(n).keySet())) {
                boolean known = w.copies.get(p).contains(n);
                boolean old = w.has.get(n).get(p).version != w.pieces.get(p)[VERSION];
                if (inFiles(p) == 0 || old || !known && w.copies.get(p).size() >= 3) drop(n, p);
                else if (!known) w.copies.get(p).add(n);
            }
        }
    }

    private void mend() {
        int which = -1;
        for (int p = w.pieces.size() - 1; p >= 0; p--) {
            boolean can = inFiles(p) > 0 && w.copies.get(p).size() < 3 && soundOne(p) >= 0 && best(p) >= 0;
            if (!can || w.pieces.get(p)[MENDED] == w.now) continue;
            if (which < 0 || w.copies.get(p).size() <= w.copies.get(which).size()) which = p;
        }
        if (which < 0) return;
        w.pieces.get(which)[MENDED] = w.now;
        give(best(which), which, w.has.get(soundOne(which)).get(which));
    }

    private void move() {
        int most = -1, least = -1;
        for (int n = 0; n < w.nodes.size(); n++) {
            if (!is(n, UP) || !is(n, COUNTED)) continue;
            if (most < 0 || w.has.get(n).size() > w.has.get(most).size()) most = n;
            if (least < 0 || w.has.get(n).size() < w.has.get(least).size()) least = n;
        }
        if (most < 0 || w.has.get(most).size() - w.has.get(least).size() < 2 || !room(least)) return;
        for (int p = 0; p < w.pieces.size(); p++) {
            if (inFiles(p) == 0 || !goodOnes(p).contains(most) || w.has.get(most).get(p).spoiled()) continue;
            if (w.has.get(least).containsKey(p)) continue;
            w.has.get(least).put(p, w.has.get(most).get(p).copy());
            w.copies.get(p).set(w.copies.get(p).indexOf(most), least);
            drop(most, p);
            return;
        }
    }

    int file() {
        state(w.files.size() < 20);
        w.files.add(new int[] {0, 0});
        w.rows.add(new ArrayList<>());
        return w.files.size() - 1;
    }

    int snapshot(int f) {
        fileIs(f);
        state(w.files.get(f)[0] == 0);
        int made = file();
        w.rows.get(made).addAll(w.rows.get(f));
        return made;
    }

    int remove(int f) {
        fileIs(f);
        state(w.files.get(f)[0] == 0);
        w.files.get(f)[0] = 1;
        w.files.get(f)[1] = w.now;
        return 0;
    }

    int restore(int f) {
        fileIs(f);
        state(w.files.get(f)[0] == 1);
        w.files.get(f)[0] = 0;
        return 0;
    }

    /** The piece that is written, with its primary, as 'Whoever writes does this' says. */
    private int ready(int f, int place) {
        int p = w.rows.get(f).get(place);
        if (inFiles(p) > 1) {
            int made = newPiece();
            state(!goodOnes(p).isEmpty());
            Thing like = w.has.get(goodOnes(p).get(0)).get(p);
            for (int n : goodOnes(p)) if (room(n)) give(n, made, like);
            state(!w.copies.get(made).isEmpty());
            w.rows.get(f).set(place, made);
            p = made;
        }
        if (leased(p) && is(w.pieces.get(p)[PRIMARY], UP)) return p;
        w.copies.get(p).removeIf(n -> !is(n, UP));
        state(!w.copies.get(p).isEmpty());
        int version = ++w.pieces.get(p)[VERSION];
        for (int n : w.copies.get(p)) w.has.get(n).get(p).version = version;
        w.pieces.get(p)[PRIMARY] = w.copies.get(p).get(0);
        w.pieces.get(p)[END] = w.now + 10;
        return p;
    }

    private boolean write(int p, int cell, int number) {
        boolean all = true;
        for (int n : w.copies.get(p)) {
            if (!is(n, UP)) {
                all = false;
                continue;
            }
            Thing t = w.has.get(n).get(p);
            while (t.cells.size() <= cell) {
                t.cells.add(-1);
                t.wrong.add(false);
            }
            t.cells.set(cell, number);
            t.wrong.set(cell, false);
        }
        if (!all) over(p);
        return all;
    }

    private int primaryCells(int p) {
        return w.has.get(w.pieces.get(p)[PRIMARY]).get(p).cells.size();
    }

    private boolean lastIsFull(int f) {
        List<Integer> row = w.rows.get(f);
        if (row.isEmpty()) return true;
        int p = row.get(row.size() - 1);
        int seen = leased(p) && is(w.pieces.get(p)[PRIMARY], UP) ? w.pieces.get(p)[PRIMARY] : -1;
        for (int n : w.copies.get(p)) if (seen < 0 && is(n, UP)) seen = n;
        state(seen >= 0);
        return w.has.get(seen).get(p).cells.size() == 4;
    }

    int append(int f, int number) {
        fileIs(f);
        argument(within(number, 0, 999));
        state(w.files.get(f)[0] == 0);
        World before = w.copy();
        boolean done = false;
        try {
            if (lastIsFull(f)) {
                state(w.rows.get(f).size() < 6);
                int made = newPiece();
                for (int k = 0; k < 3 && best(made) >= 0; k++) give(best(made), made, null);
                state(!w.copies.get(made).isEmpty());
                w.rows.get(f).add(made);
            }
            int place = w.rows.get(f).size() - 1;
            int p = ready(f, place);
            int cell = primaryCells(p);
            int answer = write(p, cell, number) ? 10 * place + cell : -1;
            done = true;
            return answer;
        } finally {
            if (!done) w = before;
        }
    }

    boolean put(int f, int place, int cell, int number) {
        fileIs(f);
        placeIs(f, place);
        index(within(cell, 0, 3));
        argument(within(number, 0, 999));
        state(w.files.get(f)[0] == 0);
        World before = w.copy();
        boolean done = false;
        try {
            int p = ready(f, place);
            state(cell < primaryCells(p));
            boolean answer = write(p, cell, number);
            done = true;
            return answer;
        } finally {
            if (!done) w = before;
        }
    }

    int read(int f, int place, int cell, int rack) {
        fileIs(f);
        placeIs(f, place);
        index(within(cell, 0, 3));
        index(within(rack, 0, 3));
        state(w.files.get(f)[0] == 0);
        int p = w.rows.get(f).get(place);
        while (!goodOnes(p).isEmpty()) {
            int n = goodOnes(p).get(0);
            for (int k = goodOnes(p).size() - 1; k >= 0; k--) {
                if (w.nodes.get(goodOnes(p).get(k))[RACK] == rack) n = goodOnes(p).get(k);
            }
            Thing t = w.has.get(n).get(p);
            if (cell >= t.cells.size()) return -1;
            if (!t.wrong.get(cell)) return t.cells.get(cell);
            drop(n, p);
        }
        return -2;
    }

    int state(int f) {
        fileIs(f);
        return w.files.get(f)[0];
    }

    int pieces(int f) {
        fileIs(f);
        return w.rows.get(f).size();
    }

    int pieceAt(int f, int place) {
        fileIs(f);
        placeIs(f, place);
        return w.rows.get(f).get(place);
    }

    int piece(int p, int what) {
        pieceIs(p);
        argument(within(what, 0, 5));
        int[] answers = {w.pieces.get(p)[VERSION], w.copies.get(p).size(), goodOnes(p).size(),
            leased(p) ? w.pieces.get(p)[PRIMARY] : -1, leased(p) ? w.pieces.get(p)[END] : -1, inFiles(p)};
        return answers[what];
    }

    int copyAt(int p, int place) {
        pieceIs(p);
        index(within(place, 0, w.copies.get(p).size() - 1));
        return w.copies.get(p).get(place);
    }

    int on(int n, int p, int what) {
        nodeIs(n);
        pieceIs(p);
        argument(within(what, 0, 2));
        Thing t = w.has.get(n).get(p);
        if (t == null) return -1;
        int bits = 0;
        for (int k = 0; k < t.wrong.size(); k++) if (t.wrong.get(k)) bits += 1 << k;
        return what == 0 ? t.version : what == 1 ? t.cells.size() : bits;
    }

    int cellOn(int n, int p, int cell) {
        nodeIs(n);
        pieceIs(p);
        index(within(cell, 0, 3));
        Thing t = w.has.get(n).get(p);
        return t == null || cell >= t.cells.size() ? -1 : t.cells.get(cell);
    }

    int load(int n) {
        nodeIs(n);
        return w.has.get(n).size();
    }

    boolean isCounted(int n) {
        nodeIs(n);
        return is(n, COUNTED);
    }

    int walk(int what) {
        argument(within(what, 0, 3));
        int many = 0;
        for (int p = 0; p < w.pieces.size(); p++) {
            if (inFiles(p) == 0) continue;
            List<Integer> all = w.copies.get(p);
            boolean oneRack = all.size() >= 2 && inRack(p, w.nodes.get(all.get(0))[RACK]) == all.size();
            boolean[] answers = {goodOnes(p).isEmpty(), all.size() < 3, all.size() > 3, oneRack};
            if (answers[what]) many++;
        }
        return many;
    }
}
