import java.util.NoSuchElementException;

/**
 * A census of echoes in the rows of a theatre, with seat limits, heirs, locks, and counting by a
 * Fenwick tree.
 */
public final class EchoCensus {
    private static final int NONE = -1;

    private static final int MAX_ROWS = 8;
    private static final int MAX_CAPACITY = 12;
    private static final int MAX_PHANTOMS = 6;
    private static final int MAX_ECHOES = 24;
    private static final int MAX_LOUDNESS = 999;
    private static final int BOXES = 8;
    private static final int MAX_UNDO = 8;
    private static final int INPUT_LIMIT = 60;

    // What a change is refused for, or ACCEPTED.
    private static final int ACCEPTED = 0;
    private static final int UNKNOWN_ECHO = 1;
    private static final int UNKNOWN_ROW = 2;
    private static final int BAD_ARGUMENT = 3;
    private static final int BAD_STATE = 4;

    // The kinds of changes, each with its command.
    private static final int ROW = 0;
    private static final int PHANTOMS = 1;
    private static final int DISMISS = 2;
    private static final int ECHO = 3;
    private static final int MOVE = 4;
    private static final int REMOVE = 5;
    private static final int HEIR = 6;
    private static final int DISOWN = 7;
    private static final int LOCK = 8;
    private static final int UNLOCK = 9;
    private static final int BOX = 10;
    private static final int SPREAD = 11;
    private static final int KINDS = 12;

    private final History history;
    private final Theatre saved;
    private final FenwickTree tree;
    private final HeirTables heirTables;
    private final Program program;
    private final StringBuilder input;
    private final StringBuilder line;
    private boolean hasSaved;
    private int storedError;
    private int storedFailure;

    public EchoCensus() {
        history = new History();
        saved = new Theatre();
        tree = new FenwickTree();
        heirTables = new HeirTables();
        program = new Program();
        input = new StringBuilder();
        line = new StringBuilder();
        hasSaved = false;
        storedError = NONE;
        storedFailure = NONE;
    }

    // Changes

    public int addRow(int capacity) throws IllegalArgumentException, IllegalStateException {
        return change(ROW, capacity, 0);
    }

    public int addPhantoms(int row, int seats)
            throws IndexOutOfBoundsException, IllegalArgumentException, IllegalStateException {
        return change(PHANTOMS, row, seats);
    }

    public int removePhantoms(int row, int seats)
            throws IndexOutOfBoundsException, IllegalArgumentException, IllegalStateException {
        return change(DISMISS, row, seats);
    }

    public int add(int row, int loudness)
            throws IndexOutOfBoundsException, IllegalArgumentException, IllegalStateException {
        return change(ECHO, row, loudness);
    }

    public int move(int id, int row)
            throws NoSuchElementException, IndexOutOfBoundsException, IllegalStateException {
        return change(MOVE, id, row);
    }

    public int remove(int id) throws NoSuchElementException, IllegalStateException {
        return change(REMOVE, id, 0);
    }

    public int setHeir(int id, int heir)
            throws NoSuchElementException, IllegalArgumentException, IllegalStateException {
        return change(HEIR, id, heir);
    }

    public int clearHeir(int id) throws NoSuchElementException, IllegalStateException {
        return change(DISOWN, id, 0);
    }

    public int lock(int row) throws IndexOutOfBoundsException, IllegalStateException {
        return change(LOCK, row, 0);
    }

    public int unlock(int row) throws IndexOutOfBoundsException, IllegalStateException {
        return change(UNLOCK, row, 0);
    }

    public int nameRow(char box, int row) throws IllegalArgumentException, IndexOutOfBoundsException {
        return change(BOX, box, row);
    }

    public int spread(int row) throws IndexOutOfBoundsException, IllegalStateException {
        return change(SPREAD, row, 0);
    }

    private int change(int kind, int first, int second) {
        Theatre draft = history.draft();
        throwRefusal(Rules.refusal(draft, kind, first, second));
        int answer = Changes.carryOut(draft, kind, first, second);
        history.keepDraft();
        return answer;
    }

    private static void throwRefusal(int refusal) {
        if (refusal == UNKNOWN_ECHO) {
            throw new NoSuchElementException("no active echo has this id");
        }
        if (refusal == UNKNOWN_ROW) {
            throw new IndexOutOfBoundsException("there is no such row");
        }
        if (refusal == BAD_ARGUMENT) {
            throw new IllegalArgumentException("an argument is not allowed");
        }
        if (refusal == BAD_STATE) {
            throw new IllegalStateException("the census does not allow this now");
        }
    }

    // Questions about rows

    public int rowCount() {
        return history.present().rows;
    }

    public int capacity(int row) throws IndexOutOfBoundsException {
        return theatreWithRow(row).realSeats[row];
    }

    public int phantoms(int row) throws IndexOutOfBoundsException {
        return theatreWithRow(row).phantomSeats[row];
    }

    public int occupancy(int row) throws IndexOutOfBoundsException {
        return theatreWithRow(row).echoesIn(row);
    }

    public int freeSeats(int row) throws IndexOutOfBoundsException {
        return theatreWithRow(row).emptySeatsIn(row);
    }

    public int rowLoudness(int row) throws IndexOutOfBoundsException {
        return theatreWithRow(row).loudnessIn(row);
    }

    public boolean isLocked(int row) throws IndexOutOfBoundsException {
        return theatreWithRow(row).locked[row];
    }

    public boolean isCrowded(int row) throws IndexOutOfBoundsException {
        return theatreWithRow(row).overfull(row);
    }

    public int idInRow(int row, int position) throws IndexOutOfBoundsException, NoSuchElementException {
        int id = theatreWithRow(row).idAt(row, position);
        if (id == NONE) {
            throw new NoSuchElementException("the row has no such position");
        }
        return id;
    }

    private Theatre theatreWithRow(int row) {
        Theatre theatre = history.present();
        if (!theatre.hasRow(row)) {
            throw new IndexOutOfBoundsException("there is no such row");
        }
        return theatre;
    }

    // Questions about echoes and heirs

    public int echoCount() {
        return history.present().active;
    }

    public boolean isActive(int id) {
        return history.present().slotOf(id) != NONE;
    }

    public int rowOf(int id) throws NoSuchElementException {
        return history.present().places[slotOfActive(id)];
    }

    public int loudness(int id) throws NoSuchElementException {
        return history.present().loudnesses[slotOfActive(id)];
    }

    public int positionInRow(int id) throws NoSuchElementException {
        return history.present().positionOf(slotOfActive(id));
    }

    public boolean hasHeir(int id) throws NoSuchElementException {
        return history.present().heirIds[slotOfActive(id)] != NONE;
    }

    public int heir(int id) throws NoSuchElementException, IllegalStateException {
        int heirId = history.present().heirIds[slotOfActive(id)];
        if (heirId == NONE) {
            throw new IllegalStateException("the echo has no heir");
        }
        return heirId;
    }

    public int lastHeir(int id) throws NoSuchElementException {
        Theatre theatre = history.present();
        return theatre.ids[theatre.lastSlotFrom(slotOfActive(id))];
    }

    public int lastHeirByDoubling(int id) throws NoSuchElementException {
        int slot = slotOfActive(id);
        Theatre theatre = history.present();
        heirTables.fillFrom(theatre);
        return theatre.ids[heirTables.endOfChainFrom(slot)];
    }

    public int stepsToLastHeir(int id) throws NoSuchElementException {
        return history.present().chainLengthFrom(slotOfActive(id));
    }

    public int bequeathers(int id) throws NoSuchElementException {
        Theatre theatre = history.present();
        return theatre.echoesWithHeir(theatre.ids[slotOfActive(id)]);
    }

    private int slotOfActive(int id) {
        int slot = history.present().slotOf(id);
        if (slot == NONE) {
            throw new NoSuchElementException("no active echo has this id");
        }
        return slot;
    }

    // Counting and ranks

    public int countInRows(int first, int last) throws IndexOutOfBoundsException, IllegalArgumentException {
        return theatreWithRange(first, last).echoesBetween(first, last);
    }

    public int countInRowsByTree(int first, int last)
            throws IndexOutOfBoundsException, IllegalArgumentException {
        tree.fillFrom(theatreWithRange(first, last));
        return tree.sumBetween(first, last);
    }

    public int idByRank(int rank) throws NoSuchElementException {
        return theatreWithRank(rank).idRanked(rank);
    }

    public int idByRankByTree(int rank) throws NoSuchElementException {
        Theatre theatre = theatreWithRank(rank);
        tree.fillFrom(theatre);
        return idRankedByTree(theatre, rank);
    }

    public int rank(int id) throws NoSuchElementException {
        return history.present().rankOf(slotOfActive(id));
    }

    public int loudest() throws NoSuchElementException {
        Theatre theatre = history.present();
        int slot = theatre.loudestSlot(0, MAX_ROWS - 1);
        if (slot == NONE) {
            throw new NoSuchElementException("no echo is active");
        }
        return theatre.ids[slot];
    }

    public int quietestRow() throws NoSuchElementException {
        int row = history.present().leastLoudRow();
        if (row == NONE) {
            throw new NoSuchElementException("there are no rows");
        }
        return row;
    }

    private Theatre theatreWithRange(int first, int last) {
        Theatre theatre = history.present();
        if (!theatre.hasRow(first) || !theatre.hasRow(last)) {
            throw new IndexOutOfBoundsException("there is no such row");
        }
        if (first > last) {
            throw new IllegalArgumentException("the first row is greater than the last row");
        }
        return theatre;
    }

    private Theatre theatreWithRank(int rank) {
        Theatre theatre = history.present();
        if (rank < 0 || rank >= theatre.active) {
            throw new NoSuchElementException("there is no such rank");
        }
        return theatre;
    }

    private int idRankedByTree(Theatre theatre, int rank) {
        int row = tree.rowWithRank(rank);
        return theatre.idAt(row, rank - tree.sumOfFirst(row));
    }

    // Boxes

    public boolean isNamed(char box) throws IllegalArgumentException {
        return rowNamedBy(box) != NONE;
    }

    public int namedRow(char box) throws IllegalArgumentException, NoSuchElementException {
        int row = rowNamedBy(box);
        if (row == NONE) {
            throw new NoSuchElementException("the box names no row");
        }
        return row;
    }

    public int boxCount(int row) throws IndexOutOfBoundsException {
        return theatreWithRow(row).boxesNaming(row);
    }

    private int rowNamedBy(char box) {
        if (!Theatre.isBoxName(box)) {
            throw new IllegalArgumentException("there is no box with this name");
        }
        return history.present().boxRows[box - 'a'];
    }

    // Totals and shares

    public int moveCount() {
        return history.present().moves;
    }

    public int removeCount() {
        return history.present().removals;
    }

    public long addedLoudness() {
        return history.present().loudnessAdded;
    }

    public long lostLoudness() {
        return history.present().loudnessLost;
    }

    public long activeLoudness() {
        return history.present().loudnessOfAll();
    }

    public double meanOccupancy() throws ArithmeticException {
        Theatre theatre = history.present();
        if (theatre.rows == 0) {
            throw new ArithmeticException("there are no rows");
        }
        return (double) theatre.active / theatre.rows;
    }

    public float realShare() throws ArithmeticException {
        Theatre theatre = history.present();
        int seats = theatre.realSeatsOfAll();
        // Every row has a real seat, so there are none only if there are no rows.
        if (seats == 0) {
            throw new ArithmeticException("there are no rows");
        }
        return (float) theatre.active / seats;
    }

    // Consistency

    public boolean isConsistent() {
        Theatre theatre = history.present();
        return lastHeirsAgree(theatre)
                && ranksAgree(theatre)
                && rangesAgree(theatre)
                && theatre.seatsSuffice()
                && theatre.loudnessAdded == theatre.loudnessOfAll() + theatre.loudnessLost;
    }

    private boolean lastHeirsAgree(Theatre theatre) {
        heirTables.fillFrom(theatre);
        for (int slot = 0; slot < theatre.active; slot++) {
            if (theatre.lastSlotFrom(slot) != heirTables.endOfChainFrom(slot)) {
                return false;
            }
        }
        return true;
    }

    private boolean ranksAgree(Theatre theatre) {
        tree.fillFrom(theatre);
        for (int rank = 0; rank < theatre.active; rank++) {
            if (theatre.idRanked(rank) != idRankedByTree(theatre, rank)) {
                return false;
            }
        }
        return true;
    }

    private boolean rangesAgree(Theatre theatre) {
        tree.fillFrom(theatre);
        for (int first = 0; first < theatre.rows; first++) {
            for (int last = first; last < theatre.rows; last++) {
                if (theatre.echoesBetween(first, last) != tree.sumBetween(first, last)) {
                    return false;
                }
            }
        }
        return true;
    }

    // The line

    public int formatRow(int row) throws IndexOutOfBoundsException {
        Theatre theatre = theatreWithRow(row);
        line.setLength(0);
        line.append(row).append('[').append(theatre.echoesIn(row));
        line.append('/').append(theatre.realSeats[row]);
        if (theatre.phantomSeats[row] > 0) {
            line.append('+').append(theatre.phantomSeats[row]);
        }
        line.append(']');
        if (theatre.locked[row]) {
            line.append('!');
        }
        appendEchoesOf(theatre, row);
        return line.length();
    }

    private void appendEchoesOf(Theatre theatre, int row) {
        for (int slot = 0; slot < theatre.active; slot++) {
            if (theatre.places[slot] == row) {
                line.append(' ').append(theatre.ids[slot]);
                line.append(':').append(theatre.loudnesses[slot]);
            }
        }
    }

    public int formatEcho(int id) throws NoSuchElementException {
        int slot = slotOfActive(id);
        Theatre theatre = history.present();
        line.setLength(0);
        line.append('#').append(id);
        line.append('@').append(theatre.places[slot]);
        line.append('=').append(theatre.loudnesses[slot]);
        if (theatre.heirIds[slot] != NONE) {
            line.append('>').append(theatre.heirIds[slot]);
        }
        return line.length();
    }

    public char lineChar(int index) throws IndexOutOfBoundsException {
        if (index < 0 || index >= line.length()) {
            throw new IndexOutOfBoundsException("the line has no such index");
        }
        return line.charAt(index);
    }

    // Programs

    public int append(char character) throws IllegalArgumentException, IllegalStateException {
        if (character < ' ' || character > '~') {
            throw new IllegalArgumentException("the character is not from ' ' to '~'");
        }
        if (input.length() >= INPUT_LIMIT) {
            throw new IllegalStateException("the input buffer is full");
        }
        input.append(character);
        return input.length();
    }

    public int run() throws IllegalArgumentException, IllegalStateException {
        int error = program.parse(input);
        input.setLength(0);
        if (error != NONE) {
            storedError = error;
            throw new IllegalArgumentException("the program is malformed");
        }
        int failure = program.carryOut(history.draft());
        if (failure != NONE) {
            storedFailure = failure;
            throw new IllegalStateException("a command of the program failed");
        }
        history.keepDraft();
        return program.size;
    }

    public int errorPosition() throws NoSuchElementException {
        if (storedError == NONE) {
            throw new NoSuchElementException("no program was malformed so far");
        }
        return storedError;
    }

    public int failedCommand() throws NoSuchElementException {
        if (storedFailure == NONE) {
            throw new NoSuchElementException("no command failed so far");
        }
        return storedFailure;
    }

    // Undo and the saved copy

    public int undoableCount() {
        return history.undoable;
    }

    public int undo() throws IllegalStateException {
        if (history.undoable == 0) {
            throw new IllegalStateException("no change can be undone");
        }
        history.stepBack();
        return history.undoable;
    }

    public int save() {
        saved.copyFrom(history.present());
        hasSaved = true;
        return saved.active;
    }

    public int restore() throws IllegalStateException {
        if (!hasSaved) {
            throw new IllegalStateException("there is no saved copy");
        }
        history.startAgainFrom(saved);
        return saved.active;
    }

    /** Everything that changes can change, and the questions that can be asked about it. */
    private static final class Theatre {
        final int[] realSeats = new int[MAX_ROWS];
        final int[] phantomSeats = new int[MAX_ROWS];
        final boolean[] locked = new boolean[MAX_ROWS];
        final int[] boxRows = new int[BOXES];
        int rows;

        // The active echoes stand in the slots below 'active', their ids ascending.
        final int[] ids = new int[MAX_ECHOES];
        final int[] places = new int[MAX_ECHOES];
        final int[] loudnesses = new int[MAX_ECHOES];
        final int[] heirIds = new int[MAX_ECHOES];
        int active;
        int nextId;

        int moves;
        int removals;
        long loudnessAdded;
        long loudnessLost;

        Theatre() {
            for (int box = 0; box < BOXES; box++) {
                boxRows[box] = NONE;
            }
        }

        void copyFrom(Theatre other) {
            for (int row = 0; row < MAX_ROWS; row++) {
                realSeats[row] = other.realSeats[row];
                phantomSeats[row] = other.phantomSeats[row];
                locked[row] = other.locked[row];
            }
            for (int box = 0; box < BOXES; box++) {
                boxRows[box] = other.boxRows[box];
            }
            for (int slot = 0; slot < MAX_ECHOES; slot++) {
                copySlot(slot, other, slot);
            }
            rows = other.rows;
            active = other.active;
            nextId = other.nextId;
            moves = other.moves;
            removals = other.removals;
            loudnessAdded = other.loudnessAdded;
            loudnessLost = other.loudnessLost;
        }

        void copySlot(int slot, Theatre source, int sourceSlot) {
            ids[slot] = source.ids[sourceSlot];
            places[slot] = source.places[sourceSlot];
            loudnesses[slot] = source.loudnesses[sourceSlot];
            heirIds[slot] = source.heirIds[sourceSlot];
        }

        static boolean isBoxName(int box) {
            return box >= 'a' && box < 'a' + BOXES;
        }

        boolean hasRow(int row) {
            return row >= 0 && row < rows;
        }

        int slotOf(int id) {
            for (int slot = 0; slot < active; slot++) {
                if (ids[slot] == id) {
                    return slot;
                }
            }
            return NONE;
        }

        int echoesIn(int row) {
            int count = 0;
            for (int slot = 0; slot < active; slot++) {
                if (places[slot] == row) {
                    count++;
                }
            }
            return count;
        }

        int echoesBetween(int first, int last) {
            int count = 0;
            for (int row = first; row <= last; row++) {
                count += echoesIn(row);
            }
            return count;
        }

        int emptySeatsIn(int row) {
            return realSeats[row] + phantomSeats[row] - echoesIn(row);
        }

        boolean overfull(int row) {
            return echoesIn(row) > realSeats[row];
        }

        boolean seatsSuffice() {
            for (int row = 0; row < rows; row++) {
                if (emptySeatsIn(row) < 0) {
                    return false;
                }
            }
            return true;
        }

        int realSeatsOfAll() {
            int sum = 0;
            for (int row = 0; row < rows; row++) {
                sum += realSeats[row];
            }
            return sum;
        }

        int lockedRows() {
            int count = 0;
            for (int row = 0; row < rows; row++) {
                if (locked[row]) {
                    count++;
                }
            }
            return count;
        }

        int boxesNaming(int row) {
            int count = 0;
            for (int box = 0; box < BOXES; box++) {
                if (boxRows[box] == row) {
                    count++;
                }
            }
            return count;
        }

        int loudnessIn(int row) {
            int sum = 0;
            for (int slot = 0; slot < active; slot++) {
                if (places[slot] == row) {
                    sum += loudnesses[slot];
                }
            }
            return sum;
        }

        long loudnessOfAll() {
            long sum = 0;
            for (int slot = 0; slot < active; slot++) {
                sum += loudnesses[slot];
            }
            return sum;
        }

        int leastLoudRow() {
            int quietest = NONE;
            int least = 0;
            for (int row = 0; row < rows; row++) {
                int loudness = loudnessIn(row);
                if (quietest == NONE || loudness < least) {
                    quietest = row;
                    least = loudness;
                }
            }
            return quietest;
        }

        /** The slot of the loudest echo of the rows, of several the one with the lowest id. */
        int loudestSlot(int firstRow, int lastRow) {
            int loudestSoFar = NONE;
            int most = 0;
            for (int slot = 0; slot < active; slot++) {
                boolean inRows = places[slot] >= firstRow && places[slot] <= lastRow;
                if (inRows && loudnesses[slot] > most) {
                    loudestSoFar = slot;
                    most = loudnesses[slot];
                }
            }
            return loudestSoFar;
        }

        int idAt(int row, int position) {
            int passed = 0;
            for (int slot = 0; slot < active; slot++) {
                if (places[slot] == row) {
                    if (passed == position) {
                        return ids[slot];
                    }
                    passed++;
                }
            }
            return NONE;
        }

        int positionOf(int slot) {
            int before = 0;
            for (int other = 0; other < slot; other++) {
                if (places[other] == places[slot]) {
                    before++;
                }
            }
            return before;
        }

        int rankOf(int slot) {
            return echoesBetween(0, places[slot] - 1) + positionOf(slot);
        }

        int idRanked(int rank) {
            int left = rank;
            for (int row = 0; row < rows; row++) {
                int echoes = echoesIn(row);
                if (left < echoes) {
                    return idAt(row, left);
                }
                left -= echoes;
            }
            return NONE;
        }

        int heirSlotOf(int slot) {
            return heirIds[slot] == NONE ? NONE : slotOf(heirIds[slot]);
        }

        int lastSlotFrom(int slot) {
            int last = slot;
            int next = heirSlotOf(slot);
            // A chain without a cycle has fewer steps than there are echoes.
            for (int step = 0; step < MAX_ECHOES && next != NONE; step++) {
                last = next;
                next = heirSlotOf(last);
            }
            return last;
        }

        int chainLengthFrom(int slot) {
            int steps = 0;
            int next = heirSlotOf(slot);
            while (steps < MAX_ECHOES && next != NONE) {
                steps++;
                next = heirSlotOf(next);
            }
            return steps;
        }

        boolean chainPasses(int fromSlot, int slot) {
            int next = fromSlot;
            for (int step = 0; step < MAX_ECHOES && next != NONE; step++) {
                if (next == slot) {
                    return true;
                }
                next = heirSlotOf(next);
            }
            return false;
        }

        int echoesWithHeir(int id) {
            int count = 0;
            for (int slot = 0; slot < active; slot++) {
                if (heirIds[slot] == id) {
                    count++;
                }
            }
            return count;
        }

        /** The row to which spreading moves an echo, or NONE. */
        int rowForSpreading(int row) {
            for (int distance = 1; distance < rows; distance++) {
                int beyond = row + distance;
                int target = beyond < rows ? beyond : beyond - rows;
                if (!locked[target] && echoesIn(target) < realSeats[target]) {
                    return target;
                }
            }
            return NONE;
        }
    }

    /** Why a change is refused: of several reasons the one that the document lists first. */
    private static final class Rules {
        static int refusal(Theatre theatre, int kind, int first, int second) {
            switch (kind) {
                case ROW:
                    return refusalOfRow(theatre, first);
                case PHANTOMS:
                    return refusalOfPhantoms(theatre, first, second);
                case DISMISS:
                    return refusalOfDismissal(theatre, first, second);
                case ECHO:
                    return refusalOfEcho(theatre, first, second);
                case MOVE:
                    return refusalOfMove(theatre, first, second);
                case REMOVE:
                    return refusalOfRemoval(theatre, first);
                case HEIR:
                    return refusalOfHeir(theatre, first, second);
                case DISOWN:
                    return refusalOfDisowning(theatre, first);
                case LOCK:
                    return refusalUnlessLockIs(theatre, first, false);
                case UNLOCK:
                    return refusalUnlessLockIs(theatre, first, true);
                case BOX:
                    return refusalOfNaming(theatre, first, second);
                default:
                    // Like a locking, a spreading needs no more than an unlocked row.
                    return refusalUnlessLockIs(theatre, first, false);
            }
        }

        private static int acceptedIf(boolean allowed) {
            return allowed ? ACCEPTED : BAD_STATE;
        }

        private static boolean within(int number, int most) {
            return number >= 1 && number <= most;
        }

        private static int refusalOfRow(Theatre theatre, int seats) {
            if (!within(seats, MAX_CAPACITY)) {
                return BAD_ARGUMENT;
            }
            return acceptedIf(theatre.rows < MAX_ROWS);
        }

        private static int refusalOfPhantoms(Theatre theatre, int row, int seats) {
            if (!theatre.hasRow(row)) {
                return UNKNOWN_ROW;
            }
            if (!within(seats, MAX_PHANTOMS)) {
                return BAD_ARGUMENT;
            }
            return acceptedIf(!theatre.locked[row]
                    && theatre.phantomSeats[row] + seats <= MAX_PHANTOMS);
        }

        private static int refusalOfDismissal(Theatre theatre, int row, int seats) {
            if (!theatre.hasRow(row)) {
                return UNKNOWN_ROW;
            }
            if (!within(seats, MAX_PHANTOMS)) {
                return BAD_ARGUMENT;
            }
            return acceptedIf(!theatre.locked[row]
                    && theatre.phantomSeats[row] >= seats
                    && theatre.emptySeatsIn(row) >= seats);
        }

        private static int refusalOfEcho(Theatre theatre, int row, int loudness) {
            if (!theatre.hasRow(row)) {
                return UNKNOWN_ROW;
            }
            if (!within(loudness, MAX_LOUDNESS)) {
                return BAD_ARGUMENT;
            }
            return acceptedIf(!theatre.locked[row]
                    && theatre.emptySeatsIn(row) > 0
                    && theatre.active < MAX_ECHOES);
        }

        private static int refusalOfMove(Theatre theatre, int id, int row) {
            int slot = theatre.slotOf(id);
            if (slot == NONE) {
                return UNKNOWN_ECHO;
            }
            if (!theatre.hasRow(row)) {
                return UNKNOWN_ROW;
            }
            int from = theatre.places[slot];
            return acceptedIf(from != row
                    && !theatre.locked[from]
                    && !theatre.locked[row]
                    && theatre.emptySeatsIn(row) > 0);
        }

        private static int refusalOfRemoval(Theatre theatre, int id) {
            int slot = theatre.slotOf(id);
            if (slot == NONE) {
                return UNKNOWN_ECHO;
            }
            return acceptedIf(!theatre.locked[theatre.places[slot]]);
        }

        private static int refusalOfHeir(Theatre theatre, int id, int heirId) {
            int slot = theatre.slotOf(id);
            int heirSlot = theatre.slotOf(heirId);
            if (slot == NONE || heirSlot == NONE) {
                return UNKNOWN_ECHO;
            }
            if (slot == heirSlot) {
                return BAD_ARGUMENT;
            }
            return acceptedIf(!theatre.chainPasses(heirSlot, slot));
        }

        private static int refusalOfDisowning(Theatre theatre, int id) {
            int slot = theatre.slotOf(id);
            if (slot == NONE) {
                return UNKNOWN_ECHO;
            }
            return acceptedIf(theatre.heirIds[slot] != NONE);
        }

        private static int refusalUnlessLockIs(Theatre theatre, int row, boolean locked) {
            if (!theatre.hasRow(row)) {
                return UNKNOWN_ROW;
            }
            return acceptedIf(theatre.locked[row] == locked);
        }

        private static int refusalOfNaming(Theatre theatre, int box, int row) {
            if (!Theatre.isBoxName(box)) {
                return BAD_ARGUMENT;
            }
            return theatre.hasRow(row) ? ACCEPTED : UNKNOWN_ROW;
        }
    }

    /** The changes themselves, each for arguments that the rules have accepted. */
    private static final class Changes {
        static int carryOut(Theatre theatre, int kind, int first, int second) {
            switch (kind) {
                case ROW:
                    return openRow(theatre, first);
                case PHANTOMS:
                    return changePhantoms(theatre, first, second);
                case DISMISS:
                    return changePhantoms(theatre, first, -second);
                case ECHO:
                    return addEcho(theatre, first, second);
                case MOVE:
                    return moveSlot(theatre, theatre.slotOf(first), second);
                case REMOVE:
                    return removeSlot(theatre, theatre.slotOf(first));
                case HEIR:
                    return replaceHeir(theatre, theatre.slotOf(first), second);
                case DISOWN:
                    return replaceHeir(theatre, theatre.slotOf(first), NONE);
                case LOCK:
                    return setLocked(theatre, first, true);
                case UNLOCK:
                    return setLocked(theatre, first, false);
                case BOX:
                    return nameByBox(theatre, first - 'a', second);
                default:
                    return spreadOut(theatre, first);
            }
        }

        private static int openRow(Theatre theatre, int seats) {
            int row = theatre.rows;
            theatre.realSeats[row] = seats;
            theatre.rows++;
            return row;
        }

        private static int changePhantoms(Theatre theatre, int row, int difference) {
            theatre.phantomSeats[row] += difference;
            return theatre.phantomSeats[row];
        }

        private static int addEcho(Theatre theatre, int row, int loudness) {
            int slot = theatre.active;
            int id = theatre.nextId;
            theatre.ids[slot] = id;
            theatre.places[slot] = row;
            theatre.loudnesses[slot] = loudness;
            theatre.heirIds[slot] = NONE;
            theatre.active++;
            theatre.nextId++;
            theatre.loudnessAdded += loudness;
            return id;
        }

        private static int moveSlot(Theatre theatre, int slot, int row) {
            int from = theatre.places[slot];
            theatre.places[slot] = row;
            theatre.moves++;
            return from;
        }

        private static int removeSlot(Theatre theatre, int slot) {
            int lost = bequeath(theatre, slot);
            theatre.loudnessLost += lost;
            theatre.removals++;
            passOnBequeathers(theatre, slot);
            closeGap(theatre, slot);
            return lost;
        }

        private static int bequeath(Theatre theatre, int slot) {
            int heirSlot = theatre.heirSlotOf(slot);
            if (heirSlot == NONE) {
                return theatre.loudnesses[slot];
            }
            int sum = theatre.loudnesses[heirSlot] + theatre.loudnesses[slot];
            theatre.loudnesses[heirSlot] = Math.min(sum, MAX_LOUDNESS);
            return sum - theatre.loudnesses[heirSlot];
        }

        private static void passOnBequeathers(Theatre theatre, int slot) {
            for (int other = 0; other < theatre.active; other++) {
                if (theatre.heirIds[other] == theatre.ids[slot]) {
                    theatre.heirIds[other] = theatre.heirIds[slot];
                }
            }
        }

        private static void closeGap(Theatre theatre, int gap) {
            theatre.active--;
            for (int slot = gap; slot < theatre.active; slot++) {
                theatre.copySlot(slot, theatre, slot + 1);
            }
        }

        private static int replaceHeir(Theatre theatre, int slot, int heirId) {
            int previous = theatre.heirIds[slot];
            theatre.heirIds[slot] = heirId;
            return previous;
        }

        private static int setLocked(Theatre theatre, int row, boolean locked) {
            theatre.locked[row] = locked;
            return theatre.lockedRows();
        }

        private static int nameByBox(Theatre theatre, int box, int row) {
            int previous = theatre.boxRows[box];
            theatre.boxRows[box] = row;
            return previous;
        }

        private static int spreadOut(Theatre theatre, int row) {
            int moved = 0;
            while (moved < MAX_ECHOES && theatre.overfull(row)) {
                int slot = theatre.loudestSlot(row, row);
                int target = theatre.rowForSpreading(row);
                if (slot == NONE || target == NONE) {
                    return moved;
                }
                moveSlot(theatre, slot, target);
                moved++;
            }
            return moved;
        }
    }

    /** The present theatre and those before the changes that can be undone, in a ring. */
    private static final class History {
        // A draft that is not kept must not cost the earliest theatre its place.
        private static final int PLACES = MAX_UNDO + 2;

        private final Theatre[] ring = new Theatre[PLACES];
        private int now;
        int undoable;

        History() {
            for (int place = 0; place < PLACES; place++) {
                ring[place] = new Theatre();
            }
        }

        Theatre present() {
            return ring[now];
        }

        /** A copy of the present theatre, which takes its place only with keepDraft. */
        Theatre draft() {
            Theatre draft = ring[placeAfter(now)];
            draft.copyFrom(ring[now]);
            return draft;
        }

        void keepDraft() {
            now = placeAfter(now);
            undoable = Math.min(undoable + 1, MAX_UNDO);
        }

        void stepBack() {
            now = now == 0 ? PLACES - 1 : now - 1;
            undoable--;
        }

        void startAgainFrom(Theatre theatre) {
            ring[now].copyFrom(theatre);
            undoable = 0;
        }

        private static int placeAfter(int place) {
            return place + 1 < PLACES ? place + 1 : 0;
        }
    }

    /** A Fenwick tree of the numbers of echoes in the rows. */
    private static final class FenwickTree {
        private final int[] sums = new int[MAX_ROWS + 1];

        void fillFrom(Theatre theatre) {
            for (int node = 0; node <= MAX_ROWS; node++) {
                sums[node] = 0;
            }
            for (int row = 0; row < theatre.rows; row++) {
                count(row, theatre.echoesIn(row));
            }
        }

        private void count(int row, int echoes) {
            for (int node = row + 1; node <= MAX_ROWS; node += node & -node) {
                sums[node] += echoes;
            }
        }

        int sumOfFirst(int rows) {
            int sum = 0;
            for (int node = rows; node > 0; node -= node & -node) {
                sum += sums[node];
            }
            return sum;
        }

        int sumBetween(int first, int last) {
            return sumOfFirst(last + 1) - sumOfFirst(first);
        }

        /** The row of the echo with this rank, found by descending from the root. */
        int rowWithRank(int rank) {
            int row = 0;
            int left = rank;
            for (int step = MAX_ROWS; step > 0; step /= 2) {
                int node = row + step;
                if (node <= MAX_ROWS && sums[node] <= left) {
                    row = node;
                    left -= sums[node];
                }
            }
            return row;
        }
    }

    /** For each slot the slots of the heirs that are 1, 2, 4, 8 and 16 steps away, or NONE. */
    private static final class HeirTables {
        private static final int LEVELS = 5;

        private final int[][] heirSlots = new int[LEVELS][MAX_ECHOES];

        void fillFrom(Theatre theatre) {
            for (int slot = 0; slot < theatre.active; slot++) {
                heirSlots[0][slot] = theatre.heirSlotOf(slot);
            }
            for (int level = 1; level < LEVELS; level++) {
                for (int slot = 0; slot < theatre.active; slot++) {
                    int halfWay = heirSlots[level - 1][slot];
                    heirSlots[level][slot] = halfWay == NONE ? NONE : heirSlots[level - 1][halfWay];
                }
            }
        }

        int endOfChainFrom(int slot) {
            int last = slot;
            for (int level = LEVELS - 1; level >= 0; level--) {
                int further = heirSlots[level][last];
                if (further != NONE) {
                    last = further;
                }
            }
            return last;
        }
    }

    /** The commands of the latest parsed program. */
    private static final class Program {
        // The shortest command, such as "row 1", takes six characters with its separator.
        private static final int MAX_COMMANDS = (INPUT_LIMIT + 1) / 6;

        private final int[] kinds = new int[MAX_COMMANDS];
        private final int[] firsts = new int[MAX_COMMANDS];
        private final int[] seconds = new int[MAX_COMMANDS];
        int size;
        private int at;

        /** Reads the whole text; answers the error position, or NONE if there is no error. */
        int parse(StringBuilder text) {
            size = 0;
            at = 0;
            boolean valid = readCommand(text);
            // Each round reads a separator at least, so the limit of the input is never reached.
            for (int round = 0; round < INPUT_LIMIT && valid && at < text.length(); round++) {
                valid = readSign(text, ';') && readCommand(text);
            }
            return valid ? NONE : at;
        }

        /** Answers the index of the first command that is refused, or NONE if none is. */
        int carryOut(Theatre theatre) {
            for (int index = 0; index < size; index++) {
                int kind = kinds[index];
                int first = firsts[index];
                int second = seconds[index];
                if (Rules.refusal(theatre, kind, first, second) != ACCEPTED) {
                    return index;
                }
                Changes.carryOut(theatre, kind, first, second);
            }
            return NONE;
        }

        // The reading methods leave 'at' behind what they read, or at the error.

        private boolean readCommand(StringBuilder text) {
            int kind = readKeyword(text);
            if (kind == NONE || size >= MAX_COMMANDS) {
                return false;
            }
            String forms = argumentForms(kind);
            kinds[size] = kind;
            seconds[size] = 0;
            for (int index = 0; index < forms.length(); index++) {
                if (index > 0 && !readSign(text, ' ')) {
                    return false;
                }
                int value = readArgument(text, forms.charAt(index));
                if (value == NONE) {
                    return false;
                }
                if (index == 0) {
                    firsts[size] = value;
                } else {
                    seconds[size] = value;
                }
            }
            size++;
            return true;
        }

        private int readKeyword(StringBuilder text) {
            int longest = 0;
            for (int kind = 0; kind < KINDS; kind++) {
                String keyword = keyword(kind);
                int matched = matchedLetters(text, keyword);
                if (matched == keyword.length()) {
                    at += matched;
                    return kind;
                }
                longest = Math.max(longest, matched);
            }
            at += longest;
            return NONE;
        }

        private int matchedLetters(StringBuilder text, String keyword) {
            int matched = 0;
            while (matched < keyword.length() && at + matched < text.length()
                    && text.charAt(at + matched) == keyword.charAt(matched)) {
                matched++;
            }
            return matched;
        }

        private boolean readSign(StringBuilder text, char sign) {
            if (at >= text.length() || text.charAt(at) != sign) {
                return false;
            }
            at++;
            return true;
        }

        private int readArgument(StringBuilder text, char form) {
            switch (form) {
                case 'N':
                    return readNumber(text, 3);
                case 'D':
                    return readNumber(text, 1);
                default:
                    return readBoxName(text);
            }
        }

        private int readNumber(StringBuilder text, int mostDigits) {
            int number = 0;
            int digits = 0;
            while (digits < mostDigits && at < text.length() && isDigit(text.charAt(at))) {
                number = number * 10 + text.charAt(at) - '0';
                digits++;
                at++;
            }
            return digits == 0 ? NONE : number;
        }

        private static boolean isDigit(char character) {
            return character >= '0' && character <= '9';
        }

        private int readBoxName(StringBuilder text) {
            if (at >= text.length() || !Theatre.isBoxName(text.charAt(at))) {
                return NONE;
            }
            char name = text.charAt(at);
            at++;
            return name;
        }

        /** The keyword with its blank, so that none begins another. */
        private static String keyword(int kind) {
            switch (kind) {
                case ROW:
                    return "row ";
                case PHANTOMS:
                    return "phantoms ";
                case DISMISS:
                    return "dismiss ";
                case ECHO:
                    return "echo ";
                case MOVE:
                    return "move ";
                case REMOVE:
                    return "remove ";
                case HEIR:
                    return "heir ";
                case DISOWN:
                    return "disown ";
                case LOCK:
                    return "lock ";
                case UNLOCK:
                    return "unlock ";
                case BOX:
                    return "box ";
                default:
                    return "spread ";
            }
        }

        /** The forms of the arguments: N a number, D a digit, B the name of a box. */
        private static String argumentForms(int kind) {
            switch (kind) {
                case ROW:
                case REMOVE:
                case DISOWN:
                    return "N";
                case PHANTOMS:
                case DISMISS:
                    return "DD";
                case ECHO:
                    return "DN";
                case MOVE:
                    return "ND";
                case HEIR:
                    return "NN";
                case BOX:
                    return "BD";
                default:
                    return "D";
            }
        }
    }
}
