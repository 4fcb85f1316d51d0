import java.util.NoSuchElementException;

/** Promises 34 to 40, 49 and 50: ranges, ranks, the loudest, the quietest, and shares. */
public final class CountingTest {
    private static final Class<NoSuchElementException> NO_ELEMENT = NoSuchElementException.class;
    private static final Class<IndexOutOfBoundsException> NO_ROW = IndexOutOfBoundsException.class;
    private static final Class<IllegalArgumentException> ARGUMENT = IllegalArgumentException.class;
    private static final Class<ArithmeticException> NO_ROWS = ArithmeticException.class;

    public static void main(String[] args) {
        ranges();
        ranks();
        loudestAndQuietest();
        shares();
        Check.finish();
    }

    /** Eight rows, of which row r holds OCCUPANCIES[r] echoes, added from the last row on. */
    private static final int[] OCCUPANCIES = {2, 0, 3, 1, 0, 4, 0, 5};

    private static EchoCensus fullHouse() {
        EchoCensus x = new EchoCensus();
        for (int row = 0; row < 8; row++) {
            x.addRow(12);
        }
        for (int row = 7; row >= 0; row--) {
            for (int echo = 0; echo < OCCUPANCIES[row]; echo++) {
                x.add(row, 1 + row);
            }
        }
        return x;
    }

    private static void ranges() {
        EchoCensus x = fullHouse();
        for (int from = 0; from < 8; from++) {
            int sum = 0;
            for (int to = from; to < 8; to++) {
                sum += OCCUPANCIES[to];
                int first = from;
                int last = to;
                Check.equal("countInRows", sum, () -> x.countInRows(first, last));
                Check.equal("countInRowsByTree", sum, () -> x.countInRowsByTree(first, last));
            }
        }
        Check.fails("a reversed range", ARGUMENT, () -> x.countInRows(1, 0));
        Check.fails("a reversed range", ARGUMENT, () -> x.countInRowsByTree(7, 6));
        int[][] wrong = {{8, 0}, {0, 8}, {-1, 3}, {3, -1}, {Integer.MIN_VALUE, Integer.MAX_VALUE},
            {Integer.MAX_VALUE, 0}};
        for (int[] range : wrong) {
            Check.fails("countInRows", NO_ROW, () -> x.countInRows(range[0], range[1]));
            Check.fails("countInRowsByTree", NO_ROW, () -> x.countInRowsByTree(range[0], range[1]));
        }
        EchoCensus empty = new EchoCensus();
        Check.fails("countInRows without rows", NO_ROW, () -> empty.countInRows(0, 0));
        Check.fails("countInRowsByTree without rows", NO_ROW, () -> empty.countInRowsByTree(0, 0));
        Check.equal("isConsistent", true, x::isConsistent);
    }

    private static void ranks() {
        EchoCensus x = fullHouse();
        int[] byRank = {13, 14, 10, 11, 12, 9, 5, 6, 7, 8, 0, 1, 2, 3, 4};
        for (int index = 0; index < byRank.length; index++) {
            int rank = index;
            Check.equal("idByRank(" + rank + ")", byRank[rank], () -> x.idByRank(rank));
            Check.equal("idByRankByTree(" + rank + ")", byRank[rank], () -> x.idByRankByTree(rank));
            Check.equal("rank(" + byRank[rank] + ")", rank, () -> x.rank(byRank[rank]));
        }
        for (int rank : new int[] {15, -1, Integer.MIN_VALUE, Integer.MAX_VALUE}) {
            Check.fails("idByRank(" + rank + ")", NO_ELEMENT, () -> x.idByRank(rank));
            Check.fails("idByRankByTree(" + rank + ")", NO_ELEMENT, () -> x.idByRankByTree(rank));
            Check.fails("rank(" + rank + ")", NO_ELEMENT, () -> x.rank(rank));
        }
        EchoCensus empty = new EchoCensus();
        Check.fails("idByRank without echoes", NO_ELEMENT, () -> empty.idByRank(0));
        Check.fails("idByRankByTree without echoes", NO_ELEMENT, () -> empty.idByRankByTree(0));
        x.move(0, 1);
        Check.equal("idByRankByTree after a move", 0, () -> x.idByRankByTree(2));
        x.remove(13);
        Check.equal("idByRankByTree after a removal", 0, () -> x.idByRankByTree(1));
        Check.equal("rank after a removal", 1, () -> x.rank(0));
    }

    private static void loudestAndQuietest() {
        EchoCensus x = new EchoCensus();
        Check.fails("loudest without echoes", NO_ELEMENT, x::loudest);
        Check.fails("quietestRow without rows", NO_ELEMENT, x::quietestRow);
        x.addRow(3);
        x.addRow(3);
        x.addRow(3);
        Check.fails("loudest without echoes", NO_ELEMENT, x::loudest);
        Check.equal("the first of the empty rows", 0, x::quietestRow);
        x.add(1, 5);
        x.add(2, 7);
        x.add(0, 7);
        x.add(2, 1);
        Check.equal("the lowest id of the loudest", 1, x::loudest);
        Check.equal("quietestRow", 1, x::quietestRow);
        x.add(1, 2);
        Check.equal("the lowest number of the quietest", 0, x::quietestRow);
        x.remove(1);
        Check.equal("loudest", 2, x::loudest);
        Check.equal("quietestRow", 2, x::quietestRow);
        EchoCensus far = new EchoCensus();
        for (int row = 0; row < 8; row++) {
            far.addRow(1);
        }
        far.add(7, 1);
        Check.equal("a quiet echo in the last row is the loudest", 0, far::loudest);
        far.add(0, 1);
        far.add(1, 2);
        Check.equal("an echo in the first row", 1, () -> far.idByRank(0));
        Check.equal("loudest", 2, far::loudest);
    }

    private static void shares() {
        EchoCensus x = new EchoCensus();
        Check.fails("meanOccupancy without rows", NO_ROWS, x::meanOccupancy);
        Check.fails("realShare without rows", NO_ROWS, x::realShare);
        x.addRow(1);
        Check.equal("meanOccupancy", 0.0, x::meanOccupancy);
        Check.equal("realShare", 0.0f, x::realShare);
        x.addPhantoms(0, 6);
        x.add(0, 1);
        x.add(0, 1);
        Check.equal("realShare above 1", 2.0f, x::realShare);
        x.addRow(1);
        x.addRow(1);
        Check.equal("meanOccupancy", 2.0 / 3.0, x::meanOccupancy);
        Check.equal("realShare", 2.0f / 3.0f, x::realShare);
        EchoCensus full = fullHouse();
        Check.equal("meanOccupancy of eight rows", 15.0 / 8.0, full::meanOccupancy);
        Check.equal("realShare of eight rows", 15.0f / 96.0f, full::realShare);
        Check.equal("isConsistent", true, x::isConsistent);
    }
}
