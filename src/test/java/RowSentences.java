/** Tests of the sentences of the promises 14 to 22 and 27: questions about rows. */
final class RowSentences extends Sentences {
    private RowSentences() {
    }

    static void test() {
        rows();
        seats();
        locksAndCrowds();
        positions();
    }

    private static void rows() {
        says("Promise 14", "Returns the number of rows.", () -> {
            EchoCensus x = new EchoCensus();
            for (int row : upTo(8)) {
                is(row, x::rowCount);
                x.addRow(1 + row);
            }
            is(8, x::rowCount);
            fails(STATE, () -> x.addRow(1));
            is(8, x::rowCount);
            x.undo();
            is(7, x::rowCount);
        });
        says("Promise 15", "Returns the number of real seats of a row.", () -> {
            EchoCensus x = rows(12, 1, 11, 2, 10, 3, 9, 4);
            x.addPhantoms(1, 6);
            addAll(x, 1, 1, 2, 3);
            x.lock(2);
            int[] due = {12, 1, 11, 2, 10, 3, 9, 4};
            for (int row : upTo(8)) {
                is(due[row], () -> x.capacity(row));
            }
        });
        says("Promise 15", "if there is no such row", () -> refusesNoRows(row -> x -> x.capacity(row)));
    }

    private static void seats() {
        says("Promise 16", "Returns the number of phantom seats of a row.", () -> {
            EchoCensus x = rows(3, 3, 3);
            x.addPhantoms(0, 6);
            x.addPhantoms(2, 1);
            addAll(x, 0, 1, 1, 1, 1);
            x.lock(0);
            is(6, () -> x.phantoms(0)); // taken or not
            is(0, () -> x.phantoms(1));
            is(1, () -> x.phantoms(2));
        });
        says("Promise 16", "if there is no such row", () -> refusesNoRows(row -> x -> x.phantoms(row)));
        says("Promise 17", "Returns the number of echoes in a row.", () -> {
            EchoCensus x = fullHouse();
            for (int row : upTo(8)) {
                is(OCCUPANCIES[row], () -> x.occupancy(row));
            }
            EchoCensus y = rows(12);
            y.addPhantoms(0, 6);
            for (int id : upTo(18)) {
                is(id, () -> y.occupancy(0));
                y.add(0, 1);
            }
            is(18, () -> y.occupancy(0));
        });
        says("Promise 17", "if there is no such row", () -> refusesNoRows(row -> x -> x.occupancy(row)));
        says("Promise 18", "together, minus the number of its echoes", () -> {
            EchoCensus x = rows(2, 1);
            is(2, () -> x.freeSeats(0));
            x.addPhantoms(0, 6);
            for (int id : upTo(8)) {
                is(8 - id, () -> x.freeSeats(0));
                x.add(0, 1);
            }
            is(0, () -> x.freeSeats(0));
            is(1, () -> x.freeSeats(1));
            EchoCensus most = rows(12);
            most.addPhantoms(0, 6);
            is(18, () -> most.freeSeats(0));
        });
        says("Promise 18", "A locked row is treated like any other.", () -> {
            EchoCensus x = theatre();
            is(0, () -> x.freeSeats(2));
            x.lock(0);
            x.lock(1);
            is(2, () -> x.freeSeats(0));
            is(2, () -> x.freeSeats(1));
        });
        says("Promise 18", "if there is no such row", () -> refusesNoRows(row -> x -> x.freeSeats(row)));
    }

    private static void locksAndCrowds() {
        says("Promise 19", "Returns the sum of the loudness of the echoes in a row.", () -> {
            EchoCensus x = rows(12, 1);
            x.addPhantoms(0, 6);
            is(0, () -> x.rowLoudness(0));
            for (int id : upTo(18)) {
                x.add(0, 999);
                is(999 * (id + 1), () -> x.rowLoudness(0));
            }
            is(0, () -> x.rowLoudness(1));
            x.move(0, 1);
            is(999 * 17, () -> x.rowLoudness(0));
            is(999, () -> x.rowLoudness(1));
            x.remove(0);
            is(0, () -> x.rowLoudness(1));
            x.remove(17); // the last to come
            is(999 * 16, () -> x.rowLoudness(0));
            is(12, () -> chain(24).rowLoudness(1));
        });
        says("Promise 19", "if there is no such row", () -> refusesNoRows(row -> x -> x.rowLoudness(row)));
        says("Promise 20", "Returns whether a row is locked.", () -> {
            EchoCensus x = theatre();
            is(false, () -> x.isLocked(0));
            is(true, () -> x.isLocked(2));
            x.unlock(2);
            is(false, () -> x.isLocked(2));
        });
        says("Promise 20", "if there is no such row", () -> refusesNoRows(row -> x -> x.isLocked(row)));
        says("Promise 21", "Returns whether a row is crowded.", () -> {
            EchoCensus x = rows(3, 3);
            x.addPhantoms(0, 1);
            addAll(x, 0, 1, 1, 1);
            is(false, () -> x.isCrowded(0)); // each real seat is taken
            x.add(0, 1);
            is(true, () -> x.isCrowded(0));
            is(false, () -> x.isCrowded(1));
            x.lock(0);
            is(true, () -> x.isCrowded(0));
            x.unlock(0);
            x.spread(0);
            is(false, () -> x.isCrowded(0));
        });
        says("Promise 21", "if there is no such row", () -> refusesNoRows(row -> x -> x.isCrowded(row)));
    }

    private static void positions() {
        says("Promise 22", "Returns the id of an echo by its position in its row.", () -> {
            EchoCensus x = theatre();
            is(0, () -> x.idInRow(0, 0));
            is(1, () -> x.idInRow(0, 1));
            is(2, () -> x.idInRow(0, 2));
            is(3, () -> x.idInRow(1, 0));
            is(4, () -> x.idInRow(2, 0));
            x.remove(1);
            is(2, () -> x.idInRow(0, 1));
        });
        says("Promise 22", "The echoes of a row are ordered by id.", () -> {
            EchoCensus x = rows(5, 5);
            addAll(x, 0, 9, 8, 7);
            addAll(x, 1, 6, 5);
            x.move(2, 1);
            x.move(0, 1);
            int[] due = {0, 2, 3, 4};
            for (int position : upTo(4)) {
                is(due[position], () -> x.idInRow(1, position));
            }
            is(1, () -> x.idInRow(0, 0));
        });
        says("Promise 22", "the position, starting at 0", () -> {
            EchoCensus x = rows(1);
            x.add(0, 1);
            is(0, () -> x.idInRow(0, 0));
            fails(NO_ELEMENT, () -> x.idInRow(0, 1));
            EchoCensus most = rows(12);
            most.addPhantoms(0, 6);
            for (int id : upTo(18)) {
                most.add(0, 1);
                is(id, () -> most.idInRow(0, id));
            }
        });
        says("Promise 22", "if there is no such row", () -> {
            refusesNoRows(row -> x -> x.idInRow(row, 0));
            refusesNoRows(row -> x -> x.idInRow(row, 99));
        });
        says("Promise 22", "if the row has no such position", () -> {
            for (int wrong : new int[] {-1, 3, 4, 24, 259, Integer.MIN_VALUE, Integer.MAX_VALUE}) {
                refuses(NO_ELEMENT, Sentences::theatre, x -> x.idInRow(0, wrong));
            }
            refuses(NO_ELEMENT, Sentences::theatre, x -> x.idInRow(1, 1));
            refuses(NO_ELEMENT, () -> rows(12), x -> x.idInRow(0, 0));
        });
        says("Promise 27", "the position of an echo in its row, where the echoes are ordered by id", () -> {
            EchoCensus x = rows(5, 5);
            addAll(x, 0, 9, 8, 7);
            addAll(x, 1, 6, 5);
            x.move(2, 1);
            x.move(0, 1);
            int[] due = {0, 0, 1, 2, 3};
            for (int id : upTo(5)) {
                is(due[id], () -> x.positionInRow(id));
            }
            x.remove(2);
            is(1, () -> x.positionInRow(3));
        });
        says("Promise 27", "Returns the position, starting at 0.", () -> {
            EchoCensus x = rows(12, 1);
            x.addPhantoms(0, 6);
            for (int id : upTo(18)) {
                x.add(0, 1);
                is(id, () -> x.positionInRow(id));
            }
            x.add(1, 1);
            is(0, () -> x.positionInRow(18));
        });
        says("Promise 27", "if no active echo has this id", () -> refusesNoEchoes(id -> x -> x.positionInRow(id)));
    }
}
