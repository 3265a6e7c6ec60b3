import java.util.ArrayList;

/** Files over many nodes that die. What each call does is told in DOC.md, promise by promise. */
public final class BlockFleet {
    public static final int NONE = -1;
    public static final int LOST = -2;
    public static final int THERE = 0, DELETED = 1, GONE = 2;

    private static final int LAST_SECOND = 3000;
    private static final int MOST_SECONDS = 100;
    private static final int MOST_NODES = 8;
    private static final int RACKS = 4;
    private static final int MOST_ROOM = 12;
    private static final int MOST_PIECES = 60;
    private static final int MOST_FILES = 20;
    private static final int MOST_IN_FILE = 6;
    private static final int CELLS = 4;
    private static final int MOST_NUMBER = 999;
    private static final int WANTED_COPIES = 3;
    private static final int MOST_LIMIT = 3;
    private static final int LEASE_SECONDS = 10;
    private static final int SECONDS_UNTIL_UNCOUNTED = 3;
    private static final int SECONDS_UNTIL_GONE = 20;
    private static final int PLACE_FACTOR = 10;

    private final ArrayList<Node> nodes = new ArrayList<>();
    private final ArrayList<Piece> allPieces = new ArrayList<>();
    private final ArrayList<File> files = new ArrayList<>();
    private int second = 0;
    private int mendLimit = 1;
    private boolean isBalancing = false;

    public BlockFleet() {
    }

    // ---- nodes

    public int node(int rack, int room) throws IndexOutOfBoundsException, IllegalArgumentException, IllegalStateException {
        requireRack(rack);
        if (room < 1 || room > MOST_ROOM) {
            throw new IllegalArgumentException("room is 1 to 12");
        }
        if (nodes.size() >= MOST_NODES) {
            throw new IllegalStateException("there are 8 nodes");
        }
        Node made = new Node(nodes.size(), rack, room);
        nodes.add(made);
        return made.number;
    }

    public boolean up(int node, boolean isUp) throws IndexOutOfBoundsException {
        Node changed = nodeNumbered(node);
        boolean wasUp = changed.isUp;
        if (wasUp && !isUp) {
            changed.downSince = second;
        }
        changed.isUp = isUp;
        return wasUp;
    }

    public boolean spoil(int node, int piece, int cell) throws IndexOutOfBoundsException, IllegalStateException {
        Node holder = nodeNumbered(node);
        Piece spoiled = pieceNumbered(piece);
        requireCell(cell);
        Copy copy = holder.copyOf(spoiled);
        if (copy == null || !copy.hasCell(cell)) {
            throw new IllegalStateException("the node has no such cell");
        }
        boolean wasWrong = copy.isWrong(cell);
        copy.makeWrong(cell);
        return wasWrong;
    }

    public int limit(int many) throws IllegalArgumentException {
        if (many < 0 || many > MOST_LIMIT) {
            throw new IllegalArgumentException("the limit is 0 to 3");
        }
        int before = mendLimit;
        mendLimit = many;
        return before;
    }

    public boolean balance(boolean isOn) {
        boolean before = isBalancing;
        isBalancing = isOn;
        return before;
    }

    public int pass(int seconds) throws IllegalArgumentException, IllegalStateException {
        if (seconds < 1 || seconds > MOST_SECONDS) {
            throw new IllegalArgumentException("seconds are 1 to 100");
        }
        if (second + seconds > LAST_SECOND) {
            throw new IllegalStateException("the second would be above 3000");
        }
        for (int i = 0; i < seconds; i++) {
            passOneSecond();
        }
        return second;
    }

    // ---- files

    public int file() throws IllegalStateException {
        return addFile().number;
    }

    public int snapshot(int file) throws IndexOutOfBoundsException, IllegalStateException {
        File original = fileNumbered(file);
        requireThere(original);
        File made = addFile();
        for (int i = 0; i < original.row.size(); i++) {
            Piece shared = original.row.get(i);
            shared.inFiles++;
            made.row.add(shared);
        }
        return made.number;
    }

    public void remove(int file) throws IndexOutOfBoundsException, IllegalStateException {
        File removed = fileNumbered(file);
        requireThere(removed);
        removed.standing = DELETED;
        removed.deletedAt = second;
    }

    public void restore(int file) throws IndexOutOfBoundsException, IllegalStateException {
        File restored = fileNumbered(file);
        if (restored.standing != DELETED) {
            throw new IllegalStateException("the file is not deleted");
        }
        restored.standing = THERE;
    }

    public int append(int file, int number) throws IndexOutOfBoundsException, IllegalArgumentException, IllegalStateException {
        File written = fileNumbered(file);
        requireNumber(number);
        requireThere(written);
        int cell = endOfLastPiece(written);
        if (cell >= CELLS) {
            startPiece(written);
            cell = 0;
        }
        int place = written.row.size() - 1;
        boolean isWritten = writeEverywhere(written, place, cell, number);
        return isWritten ? PLACE_FACTOR * place + cell : NONE;
    }

    public boolean put(int file, int place, int cell, int number) throws IndexOutOfBoundsException, IllegalArgumentException, IllegalStateException {
        File written = fileNumbered(file);
        Piece piece = pieceInFile(written, place);
        requireCell(cell);
        requireNumber(number);
        requireThere(written);
        if (cell >= primaryLength(piece)) {
            throw new IllegalStateException("the primary has not so many cells");
        }
        return writeEverywhere(written, place, cell, number);
    }

    public int read(int file, int place, int cell, int rack) throws IndexOutOfBoundsException, IllegalStateException {
        File readFile = fileNumbered(file);
        Piece piece = pieceInFile(readFile, place);
        requireCell(cell);
        requireRack(rack);
        requireThere(readFile);
        // Each turn but the last drops a copy, and there is at most one a node.
        for (int turn = 0; turn <= MOST_NODES; turn++) {
            Node holder = nearestGoodHolder(piece, rack);
            Copy copy = holder == null ? null : holder.copyOf(piece);
            if (copy == null) {
                return LOST;
            }
            if (!copy.isWrong(cell)) {
                return copy.numberIn(cell);
            }
            drop(holder, copy);
        }
        return LOST;
    }

    // ---- what is asked

    public int state(int file) throws IndexOutOfBoundsException {
        return fileNumbered(file).standing;
    }

    public int pieces(int file) throws IndexOutOfBoundsException {
        return fileNumbered(file).row.size();
    }

    public int pieceAt(int file, int place) throws IndexOutOfBoundsException {
        return pieceInFile(fileNumbered(file), place).number;
    }

    public int piece(int piece, int what) throws IndexOutOfBoundsException, IllegalArgumentException {
        Piece asked = pieceNumbered(piece);
        switch (what) {
            case 0:
                return asked.version;
            case 1:
                return asked.holders.size();
            case 2:
                return countGood(asked);
            case 3:
                return asked.primary != null && isLeased(asked) ? asked.primary.number : NONE;
            case 4:
                return isLeased(asked) ? asked.leaseEnd : NONE;
            case 5:
                return asked.inFiles;
            default:
                throw new IllegalArgumentException("what is 0 to 5");
        }
    }

    public int copyAt(int piece, int place) throws IndexOutOfBoundsException {
        Piece asked = pieceNumbered(piece);
        if (place < 0 || place >= asked.holders.size()) {
            throw new IndexOutOfBoundsException("no such copy");
        }
        return asked.holders.get(place).number;
    }

    public int on(int node, int piece, int what) throws IndexOutOfBoundsException, IllegalArgumentException {
        Node holder = nodeNumbered(node);
        Piece asked = pieceNumbered(piece);
        if (what < 0 || what > 2) {
            throw new IllegalArgumentException("what is 0 to 2");
        }
        Copy copy = holder.copyOf(asked);
        if (copy == null) {
            return NONE;
        }
        if (what == 0) {
            return copy.version;
        }
        return what == 1 ? copy.length : copy.wrong;
    }

    public int cellOn(int node, int piece, int cell) throws IndexOutOfBoundsException {
        Node holder = nodeNumbered(node);
        Piece asked = pieceNumbered(piece);
        requireCell(cell);
        Copy copy = holder.copyOf(asked);
        return copy == null ? NONE : copy.numberIn(cell);
    }

    public int load(int node) throws IndexOutOfBoundsException {
        return nodeNumbered(node).taken;
    }

    public boolean isCounted(int node) throws IndexOutOfBoundsException {
        return nodeNumbered(node).isCountedOn;
    }

    public int walk(int what) throws IllegalArgumentException {
        if (what < 0 || what > 3) {
            throw new IllegalArgumentException("what is 0 to 3");
        }
        int count = 0;
        for (int i = 0; i < allPieces.size(); i++) {
            Piece piece = allPieces.get(i);
            if (!piece.isGone() && isFoundByWalk(piece, what)) {
                count++;
            }
        }
        return count;
    }

    private static boolean isFoundByWalk(Piece piece, int what) {
        int copies = piece.holders.size();
        switch (what) {
            case 0:
                return countGood(piece) == 0;
            case 1:
                return copies < WANTED_COPIES;
            case 2:
                return copies > WANTED_COPIES;
            default:
                return copies >= 2 && piece.copiesInRack(piece.holders.get(0).rack) == copies;
        }
    }

    // ---- what arguments have to be

    private Node nodeNumbered(int number) {
        if (number < 0 || number >= nodes.size()) {
            throw new IndexOutOfBoundsException("no such node");
        }
        return nodes.get(number);
    }

    private Piece pieceNumbered(int number) {
        if (number < 0 || number >= allPieces.size()) {
            throw new IndexOutOfBoundsException("no such piece");
        }
        return allPieces.get(number);
    }

    private File fileNumbered(int number) {
        if (number < 0 || number >= files.size()) {
            throw new IndexOutOfBoundsException("no such file");
        }
        return files.get(number);
    }

    private static Piece pieceInFile(File file, int place) {
        if (place < 0 || place >= file.row.size()) {
            throw new IndexOutOfBoundsException("no such place in the file");
        }
        return file.row.get(place);
    }

    private static void requireCell(int cell) {
        if (cell < 0 || cell >= CELLS) {
            throw new IndexOutOfBoundsException("no such cell");
        }
    }

    private static void requireRack(int rack) {
        if (rack < 0 || rack >= RACKS) {
            throw new IndexOutOfBoundsException("no such rack");
        }
    }

    private static void requireNumber(int number) {
        if (number < 0 || number > MOST_NUMBER) {
            throw new IllegalArgumentException("a number is 0 to 999");
        }
    }

    private static void requireThere(File file) {
        if (file.standing != THERE) {
            throw new IllegalStateException("the file is not there");
        }
    }

    private void requireRoomForPiece() {
        if (allPieces.size() >= MOST_PIECES) {
            throw new IllegalStateException("there would be 61 pieces");
        }
    }

    // ---- copies

    private static boolean isGood(Node holder, Piece piece) {
        Copy copy = holder.copyOf(piece);
        return holder.isUp && copy != null && copy.version == piece.version;
    }

    private static int countGood(Piece piece) {
        int count = 0;
        for (int i = 0; i < piece.holders.size(); i++) {
            if (isGood(piece.holders.get(i), piece)) {
                count++;
            }
        }
        return count;
    }

    /** The first good holder in the rack, or else the first good one; null if there is none. */
    private static Node nearestGoodHolder(Piece piece, int rack) {
        Node first = null;
        for (int i = 0; i < piece.holders.size(); i++) {
            Node holder = piece.holders.get(i);
            if (!isGood(holder, piece)) {
                continue;
            }
            if (holder.rack == rack) {
                return holder;
            }
            if (first == null) {
                first = holder;
            }
        }
        return first;
    }

    /** The first good copy that has not a wrong cell; null if there is none. */
    private static Copy firstSoundCopy(Piece piece) {
        for (int i = 0; i < piece.holders.size(); i++) {
            Node holder = piece.holders.get(i);
            Copy copy = holder.copyOf(piece);
            if (copy != null && copy.wrong == 0 && isGood(holder, piece)) {
                return copy;
            }
        }
        return null;
    }

    private Node bestPlace(Piece piece) {
        Node best = null;
        for (int i = 0; i < nodes.size(); i++) {
            Node node = nodes.get(i);
            boolean isPossible = node.isCountedOn && node.isUp && node.hasRoom() && !node.has(piece);
            if (isPossible && (best == null || isBetterPlace(piece, node, best))) {
                best = node;
            }
        }
        return best;
    }

    private static boolean isBetterPlace(Piece piece, Node node, Node best) {
        int inRack = piece.copiesInRack(node.rack);
        int inBestRack = piece.copiesInRack(best.rack);
        return inRack != inBestRack ? inRack < inBestRack : node.taken < best.taken;
    }

    private static void addCopy(Node node, Piece piece, Copy model) {
        Copy copy = node.takePlace(piece);
        if (copy == null) {
            return;
        }
        if (model != null) {
            copy.takeCellsOf(model);
        }
        piece.holders.add(node);
    }

    private static void drop(Node node, Copy copy) {
        Piece piece = copy.piece;
        node.freePlace(copy);
        if (piece != null) {
            piece.forget(node);
        }
    }

    // ---- writing

    private File addFile() {
        if (files.size() >= MOST_FILES) {
            throw new IllegalStateException("there are 20 files");
        }
        File made = new File(files.size());
        files.add(made);
        return made;
    }

    /** The cell behind the file's last one; CELLS if that has to be in a new piece. */
    private int endOfLastPiece(File file) {
        int count = file.row.size();
        return count == 0 ? CELLS : primaryLength(file.row.get(count - 1));
    }

    /**
     * How many cells the primary has. Where it is still to be found, nothing is changed yet, as
     * the call may throw: the first holder that is up is the one that it will be, or, if the
     * piece is shared, the one that the primary of the new piece will be like.
     */
    private int primaryLength(Piece piece) {
        Node primary = isPrimaryUp(piece) ? piece.primary : firstUpHolder(piece);
        Copy copy = primary == null ? null : primary.copyOf(piece);
        if (copy == null) {
            throw new IllegalStateException("the piece cannot be written");
        }
        return copy.length;
    }

    private static Node firstUpHolder(Piece piece) {
        for (int i = 0; i < piece.holders.size(); i++) {
            if (piece.holders.get(i).isUp) {
                return piece.holders.get(i);
            }
        }
        return null;
    }

    private boolean isLeased(Piece piece) {
        return piece.primary != null && second < piece.leaseEnd;
    }

    private boolean isPrimaryUp(Piece piece) {
        return piece.primary != null && isLeased(piece) && piece.primary.isUp;
    }

    private void startPiece(File file) {
        if (file.row.size() >= MOST_IN_FILE) {
            throw new IllegalStateException("the file would have 7 pieces");
        }
        requireRoomForPiece();
        Piece made = new Piece(allPieces.size());
        Node place = bestPlace(made);
        if (place == null) {
            throw new IllegalStateException("a new piece finds no place");
        }
        allPieces.add(made);
        file.row.add(made);
        for (int i = 0; i < WANTED_COPIES && place != null; i++) {
            addCopy(place, made, null);
            place = bestPlace(made);
        }
    }

    /** Answers whether no copy was left out. The caller has seen that the piece can be written. */
    private boolean writeEverywhere(File file, int place, int cell, int number) {
        Piece piece = pieceInFile(file, place);
        if (piece.inFiles > 1) {
            piece = partPiece(file, place, piece);
        }
        if (!isPrimaryUp(piece)) {
            grantLease(piece);
        }
        boolean isComplete = true;
        for (int i = 0; i < piece.holders.size(); i++) {
            Node holder = piece.holders.get(i);
            Copy copy = holder.copyOf(piece);
            if (holder.isUp && copy != null) {
                copy.write(cell, number);
            } else {
                isComplete = false;
            }
        }
        if (!isComplete) {
            piece.endLease();
        }
        return isComplete;
    }

    /** Puts a new piece into the file in place of one that another file has, too. */
    private Piece partPiece(File file, int place, Piece shared) {
        requireRoomForPiece();
        Node first = nearestGoodHolder(shared, NONE);
        Copy model = first == null ? null : first.copyOf(shared);
        if (model == null || !hasGoodHolderWithRoom(shared)) {
            throw new IllegalStateException("a new piece finds no place");
        }
        Piece made = new Piece(allPieces.size());
        allPieces.add(made);
        for (int i = 0; i < shared.holders.size(); i++) {
            Node holder = shared.holders.get(i);
            if (isGood(holder, shared) && holder.hasRoom()) {
                addCopy(holder, made, model);
            }
        }
        shared.inFiles--;
        file.row.set(place, made);
        return made;
    }

    private static boolean hasGoodHolderWithRoom(Piece piece) {
        for (int i = 0; i < piece.holders.size(); i++) {
            Node holder = piece.holders.get(i);
            if (isGood(holder, piece) && holder.hasRoom()) {
                return true;
            }
        }
        return false;
    }

    private void grantLease(Piece piece) {
        Node first = firstUpHolder(piece);
        if (first == null) {
            throw new IllegalStateException("the piece cannot be written");
        }
        for (int i = piece.holders.size() - 1; i >= 0; i--) {
            if (!piece.holders.get(i).isUp) {
                piece.holders.remove(i);
            }
        }
        piece.version++;
        for (int i = 0; i < piece.holders.size(); i++) {
            Copy copy = piece.holders.get(i).copyOf(piece);
            if (copy != null) {
                copy.version = piece.version;
            }
        }
        piece.primary = first;
        piece.leaseEnd = second + LEASE_SECONDS;
    }

    // ---- a second

    private void passOneSecond() {
        second++;
        for (int i = 0; i < nodes.size(); i++) {
            stopCountingIfLongDown(nodes.get(i));
        }
        for (int i = 0; i < nodes.size(); i++) {
            Node node = nodes.get(i);
            node.isCountedOn = node.isCountedOn || node.isUp;
        }
        for (int i = 0; i < nodes.size(); i++) {
            sortOutPlaces(nodes.get(i));
        }
        endFiles();
        for (int i = 0; i < nodes.size(); i++) {
            lookAtNextPlace(nodes.get(i));
        }
        for (int i = 0; i < mendLimit; i++) {
            mendNeediestPiece();
        }
        for (int i = 0; i < allPieces.size(); i++) {
            takeAwayOneTooMany(allPieces.get(i));
        }
        if (isBalancing) {
            moveOneCopy();
        }
    }

    private void stopCountingIfLongDown(Node node) {
        if (node.isUp || !node.isCountedOn || second - node.downSince < SECONDS_UNTIL_UNCOUNTED) {
            return;
        }
        node.isCountedOn = false;
        for (int i = 0; i < allPieces.size(); i++) {
            Piece piece = allPieces.get(i);
            if (piece.isHeldBy(node)) {
                piece.forget(node);
                piece.endLease();
            }
        }
    }

    private static void sortOutPlaces(Node node) {
        if (!node.isUp) {
            return;
        }
        for (Copy copy : node.places) {
            Piece piece = copy.piece;
            if (piece == null) {
                continue;
            }
            boolean isKnown = piece.isHeldBy(node);
            boolean isTooMany = !isKnown && piece.holders.size() >= WANTED_COPIES;
            if (piece.isGone() || copy.version != piece.version || isTooMany) {
                drop(node, copy);
            } else if (!isKnown) {
                piece.holders.add(node);
            }
        }
    }

    private void endFiles() {
        for (int i = 0; i < files.size(); i++) {
            File file = files.get(i);
            if (file.standing == DELETED && second - file.deletedAt >= SECONDS_UNTIL_GONE) {
                file.end();
            }
        }
    }

    private static void lookAtNextPlace(Node node) {
        Copy copy = node.isUp ? node.nextToLookAt() : null;
        if (copy == null || copy.piece == null) {
            return;
        }
        node.lookedAt = copy.piece.number;
        if (copy.wrong != 0) {
            drop(node, copy);
        }
    }

    private void mendNeediestPiece() {
        Piece neediest = null;
        for (int i = 0; i < allPieces.size(); i++) {
            Piece piece = allPieces.get(i);
            boolean isNeedier = neediest == null || piece.holders.size() < neediest.holders.size();
            if (isNeedier && canBeMended(piece)) {
                neediest = piece;
            }
        }
        if (neediest == null) {
            return;
        }
        Node place = bestPlace(neediest);
        Copy model = firstSoundCopy(neediest);
        if (place != null && model != null) {
            addCopy(place, neediest, model);
            neediest.mendedAt = second;
        }
    }

    private boolean canBeMended(Piece piece) {
        return !piece.isGone() && piece.holders.size() < WANTED_COPIES && piece.mendedAt != second
            && firstSoundCopy(piece) != null && bestPlace(piece) != null;
    }

    private static void takeAwayOneTooMany(Piece piece) {
        if (piece.isGone() || piece.holders.size() <= WANTED_COPIES) {
            return;
        }
        Node worst = null;
        for (int i = 0; i < piece.holders.size(); i++) {
            Node holder = piece.holders.get(i);
            if (holder.isUp && (worst == null || isWorsePlace(piece, holder, worst))) {
                worst = holder;
            }
        }
        Copy copy = worst == null ? null : worst.copyOf(piece);
        if (copy != null) {
            drop(worst, copy);
        }
    }

    private static boolean isWorsePlace(Piece piece, Node node, Node worst) {
        int inRack = piece.copiesInRack(node.rack);
        int inWorstRack = piece.copiesInRack(worst.rack);
        if (inRack != inWorstRack) {
            return inRack > inWorstRack;
        }
        return node.taken != worst.taken ? node.taken > worst.taken : node.number > worst.number;
    }

    private void moveOneCopy() {
        Node fullest = null;
        Node emptiest = null;
        for (int i = 0; i < nodes.size(); i++) {
            Node node = nodes.get(i);
            if (!node.isCountedOn || !node.isUp) {
                continue;
            }
            fullest = fullest == null || node.taken > fullest.taken ? node : fullest;
            emptiest = emptiest == null || node.taken < emptiest.taken ? node : emptiest;
        }
        if (fullest == null || emptiest == null || fullest.taken < emptiest.taken + 2 || !emptiest.hasRoom()) {
            return;
        }
        for (int i = 0; i < allPieces.size(); i++) {
            Piece piece = allPieces.get(i);
            if (canMove(piece, fullest, emptiest)) {
                moveCopy(piece, fullest, emptiest);
                return;
            }
        }
    }

    private static boolean canMove(Piece piece, Node from, Node to) {
        Copy copy = from.copyOf(piece);
        boolean isSound = copy != null && copy.wrong == 0 && piece.isHeldBy(from) && isGood(from, piece);
        return isSound && !piece.isGone() && !to.has(piece);
    }

    private static void moveCopy(Piece piece, Node from, Node to) {
        Copy model = from.copyOf(piece);
        Copy made = to.takePlace(piece);
        if (model == null || made == null) {
            return;
        }
        made.takeCellsOf(model);
        piece.replaceHolder(from, to);
        from.freePlace(model);
    }

    // ---- what the fleet is made of

    /** A place for a copy on a node. It is used again and again, as what a run makes is counted. */
    private static final class Copy {
        /** Null while the place is free. */
        Piece piece = null;
        int version = 0;
        int length = 0;
        /** The bit k tells that the cell k is wrong. */
        int wrong = 0;
        final int[] numbers = new int[CELLS];

        void begin(Piece begun) {
            piece = begun;
            version = begun.version;
            length = 0;
            wrong = 0;
        }

        void takeCellsOf(Copy model) {
            length = model.length;
            wrong = model.wrong;
            for (int k = 0; k < CELLS; k++) {
                numbers[k] = model.numbers[k];
            }
        }

        boolean hasCell(int cell) {
            return cell >= 0 && cell < CELLS && cell < length;
        }

        boolean isWrong(int cell) {
            return hasCell(cell) && (wrong >> cell & 1) == 1;
        }

        void makeWrong(int cell) {
            if (hasCell(cell)) {
                wrong |= 1 << cell;
            }
        }

        int numberIn(int cell) {
            return hasCell(cell) ? numbers[cell] : NONE;
        }

        void write(int cell, int number) {
            if (cell < 0 || cell >= CELLS) {
                return;
            }
            for (int k = length; k < cell; k++) {
                numbers[k] = NONE;
            }
            length = Math.max(length, cell + 1);
            numbers[cell] = number;
            wrong &= ~(1 << cell);
        }
    }

    private static final class Node {
        final int number;
        final int rack;
        final Copy[] places;
        int taken = 0;
        boolean isUp = true;
        boolean isCountedOn = true;
        int downSince = 0;
        /** The number of the piece at which it looked last. */
        int lookedAt = NONE;

        Node(int number, int rack, int room) {
            this.number = number;
            this.rack = rack;
            places = new Copy[Math.max(room, 0)];
            for (int i = 0; i < places.length; i++) {
                places[i] = new Copy();
            }
        }

        boolean hasRoom() {
            return taken < places.length;
        }

        Copy copyOf(Piece piece) {
            for (Copy place : places) {
                if (place.piece == piece) {
                    return place;
                }
            }
            return null;
        }

        boolean has(Piece piece) {
            return copyOf(piece) != null;
        }

        Copy takePlace(Piece piece) {
            // A place that is free is of no piece.
            Copy free = copyOf(null);
            if (free != null) {
                free.begin(piece);
                taken++;
            }
            return free;
        }

        void freePlace(Copy copy) {
            copy.piece = null;
            taken--;
        }

        /** That of the lowest piece above the one looked at last, or else of the lowest piece. */
        Copy nextToLookAt() {
            Copy lowest = null;
            Copy next = null;
            for (Copy place : places) {
                if (place.piece == null) {
                    continue;
                }
                int at = place.piece.number;
                if (lowest == null || lowest.piece == null || at < lowest.piece.number) {
                    lowest = place;
                }
                if (at > lookedAt && (next == null || next.piece == null || at < next.piece.number)) {
                    next = place;
                }
            }
            return next == null ? lowest : next;
        }
    }

    private static final class Piece {
        final int number;
        int version = 1;
        /** In how many files that are not gone. */
        int inFiles = 1;
        /** Null without a lease. */
        Node primary = null;
        int leaseEnd = NONE;
        int mendedAt = NONE;
        /** The nodes of its copies, in the order in which these came to be known. */
        final ArrayList<Node> holders = new ArrayList<>();

        Piece(int number) {
            this.number = number;
        }

        boolean isGone() {
            return inFiles == 0;
        }

        void endLease() {
            primary = null;
            leaseEnd = NONE;
        }

        int placeOfHolder(Node node) {
            for (int i = 0; i < holders.size(); i++) {
                if (holders.get(i) == node) {
                    return i;
                }
            }
            return NONE;
        }

        boolean isHeldBy(Node node) {
            return placeOfHolder(node) != NONE;
        }

        void forget(Node node) {
            int place = placeOfHolder(node);
            if (place >= 0) {
                holders.remove(place);
            }
            if (primary == node) {
                endLease();
            }
        }

        void replaceHolder(Node node, Node other) {
            int place = placeOfHolder(node);
            if (place >= 0) {
                holders.set(place, other);
            }
            if (primary == node) {
                endLease();
            }
        }

        int copiesInRack(int rack) {
            int count = 0;
            for (int i = 0; i < holders.size(); i++) {
                if (holders.get(i).rack == rack) {
                    count++;
                }
            }
            return count;
        }
    }

    private static final class File {
        final int number;
        int standing = THERE;
        int deletedAt = 0;
        final ArrayList<Piece> row = new ArrayList<>();

        File(int number) {
            this.number = number;
        }

        void end() {
            standing = GONE;
            for (int i = 0; i < row.size(); i++) {
                row.get(i).inFiles--;
            }
            row.clear();
        }
    }
}
