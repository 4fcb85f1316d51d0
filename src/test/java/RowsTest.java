/** Promises 1 to 4, 10, 11 and 14 to 21: rows, their seats and their locks. */
public final class RowsTest {
    private static final Class<IndexOutOfBoundsException> NO_ROW = IndexOutOfBoundsException.class;
    private static final Class<IllegalArgumentException> ARGUMENT = IllegalArgumentException.class;
    private static final Class<IllegalStateException> STATE = IllegalStateException.class;

    public static void main(String[] args) {
        newObject();
        rows();
        phantomSeats();
        locks();
        questions();
        unknownRows();
        Check.finish();
    }

    private static void newObject() {
        EchoCensus x = new EchoCensus();
        Check.equal("rows of a new object", 0, x::rowCount);
        Check.equal("echoes of a new object", 0, x::echoCount);
        Check.equal("moves of a new object", 0, x::moveCount);
        Check.equal("removals of a new object", 0, x::removeCount);
        Check.equal("added in a new object", 0, x::addedLoudness);
        Check.equal("lost in a new object", 0, x::lostLoudness);
        Check.equal("active in a new object", 0, x::activeLoudness);
        Check.equal("undoable in a new object", 0, x::undoableCount);
        Check.equal("a new object is consistent", true, x::isConsistent);
        for (char box = 'a'; box <= 'h'; box++) {
            char name = box;
            Check.equal("box " + box + " of a new object", false, () -> x.isNamed(name));
        }
    }

    private static void rows() {
        EchoCensus x = new EchoCensus();
        for (int wrong : new int[] {0, 13, -1, Integer.MIN_VALUE, Integer.MAX_VALUE}) {
            Check.fails("addRow(" + wrong + ")", ARGUMENT, () -> x.addRow(wrong));
        }
        for (int row = 0; row < 8; row++) {
            int capacity = row == 7 ? 12 : row + 1;
            int number = row;
            Check.equal("addRow(" + capacity + ")", row, () -> x.addRow(capacity));
            Check.equal("capacity", capacity, () -> x.capacity(number));
            Check.equal("phantoms at first", 0, () -> x.phantoms(number));
            Check.equal("locked at first", false, () -> x.isLocked(number));
            Check.equal("rowCount", row + 1, x::rowCount);
        }
        Check.fails("a ninth row", STATE, () -> x.addRow(1));
        Check.fails("a bad ninth row", ARGUMENT, () -> x.addRow(0));
        Check.equal("rowCount", 8, x::rowCount);
        for (int row = 0; row < 8; row++) {
            int number = row;
            Check.equal("lock(" + row + ")", row + 1, () -> x.lock(number));
        }
        Check.equal("unlock(7)", 7, () -> x.unlock(7));
    }

    private static void phantomSeats() {
        EchoCensus x = new EchoCensus();
        x.addRow(1);
        for (int wrong : new int[] {0, 7, -1, Integer.MIN_VALUE, Integer.MAX_VALUE}) {
            Check.fails("addPhantoms(0, " + wrong + ")", ARGUMENT, () -> x.addPhantoms(0, wrong));
            Check.fails("removePhantoms(0, " + wrong + ")", ARGUMENT, () -> x.removePhantoms(0, wrong));
            Check.fails("addPhantoms(1, " + wrong + ")", NO_ROW, () -> x.addPhantoms(1, wrong));
            Check.fails("removePhantoms(1, " + wrong + ")", NO_ROW, () -> x.removePhantoms(1, wrong));
        }
        Check.equal("addPhantoms(0, 4)", 4, () -> x.addPhantoms(0, 4));
        Check.fails("addPhantoms beyond 6", STATE, () -> x.addPhantoms(0, 3));
        Check.equal("addPhantoms up to 6", 6, () -> x.addPhantoms(0, 2));
        Check.equal("removePhantoms(0, 3)", 3, () -> x.removePhantoms(0, 3));
        Check.fails("removePhantoms of more than there are", STATE, () -> x.removePhantoms(0, 4));
        x.add(0, 1);
        x.add(0, 1);
        Check.fails("removePhantoms below the echoes", STATE, () -> x.removePhantoms(0, 3));
        Check.equal("removePhantoms down to the echoes", 1, () -> x.removePhantoms(0, 2));
        Check.fails("removePhantoms of the last needed one", STATE, () -> x.removePhantoms(0, 1));
        x.remove(0);
        x.lock(0);
        Check.fails("addPhantoms to a locked row", STATE, () -> x.addPhantoms(0, 1));
        Check.fails("removePhantoms from a locked row", STATE, () -> x.removePhantoms(0, 1));
        Check.fails("a bad number of seats in a locked row", ARGUMENT, () -> x.addPhantoms(0, 0));
        Check.fails("a bad number of seats in a locked row", ARGUMENT, () -> x.removePhantoms(0, 7));
        Check.equal("phantoms", 1, () -> x.phantoms(0));
        x.unlock(0);
        Check.equal("the last phantom seat", 0, () -> x.removePhantoms(0, 1));
    }

    private static void locks() {
        EchoCensus x = new EchoCensus();
        x.addRow(1);
        x.addRow(1);
        x.addRow(1);
        Check.equal("lock(2)", 1, () -> x.lock(2));
        Check.equal("lock(0)", 2, () -> x.lock(0));
        Check.fails("lock again", STATE, () -> x.lock(0));
        Check.fails("unlock an unlocked row", STATE, () -> x.unlock(1));
        Check.equal("isLocked(0)", true, () -> x.isLocked(0));
        Check.equal("isLocked(1)", false, () -> x.isLocked(1));
        Check.equal("unlock(2)", 1, () -> x.unlock(2));
        Check.equal("unlock(0)", 0, () -> x.unlock(0));
        Check.equal("isLocked(0)", false, () -> x.isLocked(0));
    }

    private static void questions() {
        EchoCensus x = new EchoCensus();
        x.addRow(1);
        x.addRow(3);
        x.addPhantoms(0, 2);
        x.add(0, 10);
        Check.equal("full but not crowded", false, () -> x.isCrowded(0));
        x.add(0, 999);
        x.add(1, 5);
        Check.equal("crowded", true, () -> x.isCrowded(0));
        Check.equal("occupancy(0)", 2, () -> x.occupancy(0));
        Check.equal("occupancy(1)", 1, () -> x.occupancy(1));
        Check.equal("freeSeats(0)", 1, () -> x.freeSeats(0));
        Check.equal("freeSeats(1)", 2, () -> x.freeSeats(1));
        Check.equal("rowLoudness(0)", 1009, () -> x.rowLoudness(0));
        Check.equal("rowLoudness(1)", 5, () -> x.rowLoudness(1));
        x.lock(0);
        Check.equal("freeSeats of a locked row", 1, () -> x.freeSeats(0));
        Check.equal("a locked row stays crowded", true, () -> x.isCrowded(0));
    }

    private static void unknownRows() {
        EchoCensus x = new EchoCensus();
        x.addRow(1);
        x.addRow(1);
        for (int row : new int[] {2, 7, 8, 100, -1, Integer.MIN_VALUE, Integer.MAX_VALUE}) {
            Check.fails("capacity(" + row + ")", NO_ROW, () -> x.capacity(row));
            Check.fails("phantoms(" + row + ")", NO_ROW, () -> x.phantoms(row));
            Check.fails("occupancy(" + row + ")", NO_ROW, () -> x.occupancy(row));
            Check.fails("freeSeats(" + row + ")", NO_ROW, () -> x.freeSeats(row));
            Check.fails("rowLoudness(" + row + ")", NO_ROW, () -> x.rowLoudness(row));
            Check.fails("isLocked(" + row + ")", NO_ROW, () -> x.isLocked(row));
            Check.fails("isCrowded(" + row + ")", NO_ROW, () -> x.isCrowded(row));
            Check.fails("lock(" + row + ")", NO_ROW, () -> x.lock(row));
            Check.fails("unlock(" + row + ")", NO_ROW, () -> x.unlock(row));
            Check.fails("addPhantoms(" + row + ", 1)", NO_ROW, () -> x.addPhantoms(row, 1));
            Check.fails("removePhantoms(" + row + ", 1)", NO_ROW, () -> x.removePhantoms(row, 1));
        }
    }
}
