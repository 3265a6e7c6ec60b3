import java.util.ArrayList;
import java.util.List;

/** Long runs of calls, written by a row of numbers that is always the same, compared with Model. */
public final class ModelTest {
    private static final int RUNS = 7000;
    private static final int CALLS = 512;
    private static final int STYLES = 7;
    private static final int CALM = 4;
    /** Runs that come to the last second. */
    private static final int LONG = 5;
    /** Runs in which many pieces part. */
    private static final int PARTING = 6;

    private long row;
    private final BlockFleet fleet = new BlockFleet();
    private final Model model = new Model();
    private final List<String> told = new ArrayList<>();
    private boolean isWrong = false;

    private ModelTest(long seed) {
        row = seed * 7919 + 17;
    }

    private int any(int bound) {
        row = row * 6364136223846793005L + 1442695040888963407L;
        return (int) ((row >>> 33) % bound);
    }

    /** Mostly a number below the bound, at times one beside the range. */
    private int mostly(int bound) {
        if (bound <= 0 || any(40) == 0) {
            return any(2) == 0 ? -1 : bound;
        }
        return any(bound);
    }

    private void same(String call, Due.Call ofFleet, Due.Call ofModel) {
        Object got = Due.answer(ofFleet);
        Object want = Due.answer(ofModel);
        told.add(call + " -> " + got);
        if (!want.equals(got) && !isWrong) {
            isWrong = true;
            told.forEach(System.out::println);
            System.out.println("the last one: due is " + want);
        }
    }

    private int node() {
        return mostly(model.w.nodes.size());
    }

    private int file() {
        return mostly(model.w.files.size());
    }

    /** Mostly one that is there, if there is one. */
    private int fileThatIsThere() {
        int f = file();
        for (int i = 0; i < 9 && (f < 0 || f >= model.w.files.size() || model.w.files.get(f)[0] != 0); i++) {
            f = file();
        }
        return f;
    }

    private int piece() {
        return mostly(model.w.pieces.size());
    }

    private int place(int f) {
        boolean is = f >= 0 && f < model.w.rows.size();
        return mostly(is ? model.w.rows.get(f).size() : 1);
    }

    private void setUp(int style) {
        int many = style == CALM ? 8 : 1 + any(8);
        for (int i = 0; i < many; i++) {
            int rack = any(style == 0 ? 2 : 4);
            int room = style == CALM || style == PARTING ? 12 : 1 + any(style == 1 ? 4 : 12);
            same("node " + rack + " " + room, () -> fleet.node(rack, room), () -> model.node(rack, room));
        }
        for (int i = 0; i < 2; i++) {
            same("file", fleet::file, model::file);
        }
    }

    private void change(int style) {
        if (style == LONG && any(3) == 0) {
            pass(any(2) == 0 ? 100 : 1 + any(100));
            return;
        }
        if (style == PARTING && any(8) != 0) {
            partOften();
            return;
        }
        // The calm runs write more, and so make more pieces.
        int kind = style == CALM && any(2) == 0 ? any(42) : any(100);
        if (kind < 30) {
            append(file());
        } else if (kind < 42) {
            put(file(), any(2) == 0 ? mostly(4) : 0);
        } else if (kind < 58) {
            int n = node();
            boolean is = any(style == CALM || style == PARTING ? 9 : 2 + style % 2) != 0;
            same("up " + n + " " + is, () -> fleet.up(n, is), () -> model.up(n, is));
        } else if (kind < 70) {
            spoil();
        } else if (kind < 82) {
            pass(any(30) == 0 ? mostly(101) : 1 + any(style == 3 ? 12 : style == CALM ? 22 : 4));
        } else {
            changeFilesOrSettings(kind - 82);
        }
    }

    /** The room of the pieces that are gone is free again, so that the next ones can part. */
    private void partOften() {
        int kind = any(24);
        if (kind < 12) {
            put(fileThatIsThere(), 0);
        } else if (kind < 18) {
            append(fileThatIsThere());
        } else if (kind < 20) {
            pass(19 + any(4));
        } else {
            int f = fileThatIsThere();
            if (kind < 23) {
                same("snapshot " + f, () -> fleet.snapshot(f), () -> model.snapshot(f));
            } else {
                remove(f);
            }
        }
    }

    private int number() {
        return any(60) == 0 ? (any(2) == 0 ? -1 : 1000) : any(1000);
    }

    private void append(int f) {
        int number = number();
        same("append " + f + " " + number, () -> fleet.append(f, number), () -> model.append(f, number));
    }

    private void put(int f, int c) {
        int p = place(f);
        int number = number();
        same("put " + f + " " + p + " " + c + " " + number,
            () -> fleet.put(f, p, c, number), () -> model.put(f, p, c, number));
    }

    private void pass(int seconds) {
        same("pass " + seconds, () -> fleet.pass(seconds), () -> model.pass(seconds));
    }

    private void remove(int f) {
        same("remove " + f, () -> {
            fleet.remove(f);
            return 0;
        }, () -> model.remove(f));
    }

    private void spoil() {
        int n = node();
        boolean is = n >= 0 && n < model.w.has.size() && !model.w.has.get(n).isEmpty() && any(5) != 0;
        int p = is ? new ArrayList<>(model.w.has.get(n).keySet()).get(any(model.w.has.get(n).size())) : piece();
        int c = any(3) == 0 ? mostly(4) : any(2);
        same("spoil " + n + " " + p + " " + c, () -> fleet.spoil(n, p, c), () -> model.spoil(n, p, c));
    }

    private void changeFilesOrSettings(int kind) {
        int f = file();
        if (kind < 3) {
            same("file", fleet::file, model::file);
        } else if (kind < 6) {
            same("snapshot " + f, () -> fleet.snapshot(f), () -> model.snapshot(f));
        } else if (kind < 9) {
            remove(f);
        } else if (kind < 12) {
            same("restore " + f, () -> {
                fleet.restore(f);
                return 0;
            }, () -> model.restore(f));
        } else if (kind < 14) {
            int many = mostly(4);
            same("limit " + many, () -> fleet.limit(many), () -> model.limit(many));
        } else if (kind < 16) {
            boolean is = any(2) == 0;
            same("balance " + is, () -> fleet.balance(is), () -> model.balance(is));
        } else {
            int rack = mostly(4);
            int room = any(20) == 0 ? any(2) * 13 : 1 + any(12);
            same("node " + rack + " " + room, () -> fleet.node(rack, room), () -> model.node(rack, room));
        }
    }

    private void ask() {
        int f = file();
        int p = piece();
        int n = node();
        int c = mostly(4);
        int pl = place(f);
        switch (any(12)) {
            case 0 -> same("state " + f, () -> fleet.state(f), () -> model.state(f));
            case 1 -> same("pieces " + f, () -> fleet.pieces(f), () -> model.pieces(f));
            case 2 -> same("pieceAt " + f + " " + pl, () -> fleet.pieceAt(f, pl), () -> model.pieceAt(f, pl));
            case 3, 4 -> {
                int what = mostly(6);
                same("piece " + p + " " + what, () -> fleet.piece(p, what), () -> model.piece(p, what));
            }
            case 5 -> {
                int at = mostly(3);
                same("copyAt " + p + " " + at, () -> fleet.copyAt(p, at), () -> model.copyAt(p, at));
            }
            case 6 -> {
                int what = mostly(3);
                same("on " + n + " " + p + " " + what, () -> fleet.on(n, p, what), () -> model.on(n, p, what));
            }
            case 7 -> same("cellOn " + n + " " + p + " " + c, () -> fleet.cellOn(n, p, c), () -> model.cellOn(n, p, c));
            case 8 -> same("load " + n, () -> fleet.load(n), () -> model.load(n));
            case 9 -> same("isCounted " + n, () -> fleet.isCounted(n), () -> model.isCounted(n));
            case 10 -> {
                int what = mostly(4);
                same("walk " + what, () -> fleet.walk(what), () -> model.walk(what));
            }
            default -> {
                int rack = mostly(4);
                same("read " + f + " " + pl + " " + c + " " + rack,
                    () -> fleet.read(f, pl, c, rack), () -> model.read(f, pl, c, rack));
            }
        }
    }

    private boolean run(int style) {
        setUp(style);
        while (told.size() < CALLS && !isWrong) {
            if (any(100) < (style == PARTING ? 80 : 45)) {
                change(style);
            } else {
                ask();
            }
        }
        return !isWrong;
    }

    public static void main(String[] args) {
        for (int i = 0; i < RUNS; i++) {
            if (!new ModelTest(i).run(i % STYLES)) {
                System.out.println("run " + i + " is wrong");
                System.exit(1);
            }
        }
        System.out.println(RUNS + " runs of " + CALLS + " calls are as the model says");
    }
}
