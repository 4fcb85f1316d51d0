/** Tests of the sentences of the promises 1 to 13: a new object, and the changes. */
final class ChangeSentences extends Sentences {
    private ChangeSentences() {
    }

    static void test() {
        newObject();
        addRow();
        addPhantoms();
        removePhantoms();
        add();
        move();
        remove();
        setHeir();
        clearHeir();
        lock();
        unlock();
        nameRow();
        spread();
    }

    private static void newObject() {
        says("Promise 1", "Creates a census of a theatre without rows.", () -> {
            EchoCensus x = new EchoCensus();
            is(0, x::rowCount);
            is(0, x::echoCount);
            is(0, x::moveCount);
            is(0, x::removeCount);
            is(0, x::addedLoudness);
            is(0, x::lostLoudness);
            is(0, x::activeLoudness);
            is(0, x::undoableCount);
            is(true, x::isConsistent);
            fails(NO_ROW, () -> x.capacity(0));
            fails(NO_ROW, () -> x.lineChar(0));
            fails(NO_ELEMENT, x::errorPosition);
            fails(NO_ELEMENT, x::failedCommand);
            fails(STATE, x::undo);
            fails(STATE, x::restore);
            is(1, () -> x.append(' '));
            EchoCensus other = rows(1);
            is(0, x::rowCount); // objects share nothing
            is(1, other::rowCount);
        });
    }

    private static void addRow() {
        says("Promise 2", "Adds a row.", () -> {
            EchoCensus x = rows(3, 5);
            is(2, x::rowCount);
            is(3, () -> x.capacity(0));
            is(5, () -> x.capacity(1));
            is(0, () -> x.occupancy(1));
            is(0, () -> x.phantoms(1));
            is(0, () -> x.boxCount(1));
            is(false, () -> x.isLocked(1));
        });
        says("Promise 2", "the number of real seats, 1 to 12", () -> {
            for (int capacity = 1; capacity <= 12; capacity++) {
                int seats = capacity;
                EchoCensus x = new EchoCensus();
                is(0, () -> x.addRow(seats));
                is(seats, () -> x.capacity(0));
                for (int id : upTo(seats)) {
                    is(id, () -> x.add(0, 1));
                }
                fails(STATE, () -> x.add(0, 1));
                is(false, () -> x.isCrowded(0));
            }
        });
        says("Promise 2", "Returns the number of the row.", () -> {
            EchoCensus x = new EchoCensus();
            for (int row : upTo(8)) {
                is(row, () -> x.addRow(1 + row));
            }
            x.undo();
            is(7, () -> x.addRow(12));
        });
        says("Promise 2", "if the capacity is out of range", () -> {
            for (int wrong : new int[] {0, 13, -1, -12, 14, 100, 257, 65537, Integer.MIN_VALUE + 1,
                Integer.MIN_VALUE, Integer.MAX_VALUE}) {
                refuses(ARGUMENT, Sentences::theatre, x -> x.addRow(wrong));
                refuses(ARGUMENT, EchoCensus::new, x -> x.addRow(wrong));
            }
        });
        says("Promise 2", "if there are 8 rows", () -> {
            refuses(STATE, Sentences::fullHouse, x -> x.addRow(1));
            refuses(STATE, Sentences::fullHouse, x -> x.addRow(12));
            is(7, () -> rows(1, 1, 1, 1, 1, 1, 1).addRow(1));
        });
    }

    private static void addPhantoms() {
        says("Promise 3", "Adds phantom seats to a row.", () -> {
            EchoCensus x = rows(1, 1, 1);
            x.addPhantoms(1, 2);
            is(0, () -> x.phantoms(0));
            is(2, () -> x.phantoms(1));
            is(0, () -> x.phantoms(2));
            is(3, () -> x.freeSeats(1));
            is(1, () -> x.capacity(1));
        });
        says("Promise 3", "the number of seats, 1 to 6", () -> {
            for (int seats = 1; seats <= 6; seats++) {
                int added = seats;
                EchoCensus x = rows(12);
                is(added, () -> x.addPhantoms(0, added));
                is(12 + added, () -> x.freeSeats(0));
            }
        });
        says("Promise 3", "Returns the number of phantom seats of the row afterwards.", () -> {
            EchoCensus x = rows(1, 1);
            for (int seats : upTo(6)) {
                is(seats + 1, () -> x.addPhantoms(0, 1));
            }
            is(2, () -> x.addPhantoms(1, 2));
            is(6, () -> x.addPhantoms(1, 4));
        });
        says("Promise 3", "if there is no such row", () -> refusesNoRows(row -> x -> x.addPhantoms(row, 1)));
        says("Promise 3", "if the number of seats is out of range", () -> {
            for (int wrong : new int[] {0, 7, -1, -3, 8, 257, Integer.MIN_VALUE, Integer.MAX_VALUE}) {
                refuses(ARGUMENT, Sentences::theatre, x -> x.addPhantoms(1, wrong));
                refuses(ARGUMENT, Sentences::theatre, x -> x.addPhantoms(0, wrong));
            }
        });
        says("Promise 3", "if the row is locked, or would have more than 6 phantom seats", () -> {
            refuses(STATE, Sentences::theatre, x -> x.addPhantoms(2, 1));
            refuses(STATE, Sentences::theatre, x -> x.addPhantoms(2, 6));
            for (int seats = 4; seats <= 6; seats++) {
                int tooMany = seats;
                refuses(STATE, Sentences::theatre, x -> x.addPhantoms(0, tooMany));
            }
            is(6, () -> theatre().addPhantoms(0, 3));
            EchoCensus x = theatre();
            x.lock(0);
            x.unlock(2);
            is(6, () -> x.addPhantoms(1, 6));
            is(1, () -> x.addPhantoms(2, 1));
            fails(STATE, () -> x.addPhantoms(1, 1));
        });
    }

    private static void removePhantoms() {
        says("Promise 4", "Removes phantom seats from a row.", () -> {
            EchoCensus x = rows(2, 2, 2);
            x.addPhantoms(0, 5);
            x.addPhantoms(1, 5);
            x.addPhantoms(2, 5);
            x.removePhantoms(1, 2);
            is(5, () -> x.phantoms(0));
            is(3, () -> x.phantoms(1));
            is(5, () -> x.phantoms(2));
            is(5, () -> x.freeSeats(1));
            is(2, () -> x.capacity(1));
        });
        says("Promise 4", "the number of seats, 1 to 6", () -> {
            for (int seats = 1; seats <= 6; seats++) {
                int removed = seats;
                EchoCensus x = rows(12);
                x.addPhantoms(0, 6);
                is(6 - removed, () -> x.removePhantoms(0, removed));
                is(18 - removed, () -> x.freeSeats(0));
            }
        });
        says("Promise 4", "Returns the number of phantom seats of the row afterwards.", () -> {
            EchoCensus x = rows(1, 1);
            x.addPhantoms(0, 6);
            x.addPhantoms(1, 3);
            for (int seats : upTo(6)) {
                is(5 - seats, () -> x.removePhantoms(0, 1));
            }
            is(1, () -> x.removePhantoms(1, 2));
        });
        says("Promise 4", "if there is no such row", () -> refusesNoRows(row -> x -> x.removePhantoms(row, 1)));
        says("Promise 4", "if the number of seats is out of range", () -> {
            for (int wrong : new int[] {0, 7, -1, -3, 8, 257, Integer.MIN_VALUE, Integer.MAX_VALUE}) {
                refuses(ARGUMENT, Sentences::theatre, x -> x.removePhantoms(0, wrong));
                refuses(ARGUMENT, Sentences::theatre, x -> x.removePhantoms(1, wrong));
            }
        });
        says("Promise 4", "if the row is locked, has fewer phantom seats, or would have more echoes", () -> {
            refuses(STATE, () -> withPhantomsLocked(), x -> x.removePhantoms(0, 1));
            refuses(STATE, Sentences::theatre, x -> x.removePhantoms(1, 1)); // has none
            refuses(STATE, () -> rows(12), x -> x.removePhantoms(0, 6));
            refuses(STATE, Sentences::theatre, x -> x.removePhantoms(0, 4)); // has 3
            refuses(STATE, Sentences::theatre, x -> x.removePhantoms(0, 3)); // needs 1 of 3
            is(1, () -> theatre().removePhantoms(0, 2));
            EchoCensus x = rows(1);
            x.addPhantoms(0, 6);
            addAll(x, 0, 1, 1, 1, 1, 1, 1, 1);
            fails(STATE, () -> x.removePhantoms(0, 1));
            x.remove(0);
            fails(STATE, () -> x.removePhantoms(0, 2));
            is(5, () -> x.removePhantoms(0, 1));
        });
    }

    private static EchoCensus withPhantomsLocked() {
        EchoCensus x = theatre();
        x.lock(0);
        return x;
    }

    private static void add() {
        says("Promise 5", "Adds an echo to a row.", () -> {
            EchoCensus x = rows(2, 2, 2);
            x.add(1, 77);
            is(1, x::echoCount);
            is(1, () -> x.occupancy(1));
            is(0, () -> x.occupancy(0));
            is(0, () -> x.occupancy(2));
            is(1, () -> x.rowOf(0));
            is(77, () -> x.loudness(0));
            is(false, () -> x.hasHeir(0));
            is(0, () -> x.bequeathers(0));
            is(77, x::addedLoudness);
        });
        says("Promise 5", "the loudness, 1 to 999", () -> {
            EchoCensus x = rows(3);
            is(0, () -> x.add(0, 1));
            is(1, () -> x.add(0, 999));
            is(2, () -> x.add(0, 500));
            is(1, () -> x.loudness(0));
            is(999, () -> x.loudness(1));
            is(500, () -> x.loudness(2));
        });
        says("Promise 5", "Returns the id of the echo.", () -> {
            EchoCensus x = rows(12, 12);
            for (int id : upTo(24)) {
                is(id, () -> x.add(id / 12, 1 + id));
                is(1 + id, () -> x.loudness(id));
            }
            x.remove(0);
            x.remove(23);
            is(24, () -> x.add(1, 1));
            is(25, () -> x.add(0, 1));
        });
        says("Promise 5", "if there is no such row", () -> refusesNoRows(row -> x -> x.add(row, 1)));
        says("Promise 5", "if the loudness is out of range", () -> {
            for (int wrong : new int[] {0, 1000, -1, -999, 1001, 65537, Integer.MIN_VALUE, Integer.MAX_VALUE}) {
                refuses(ARGUMENT, Sentences::theatre, x -> x.add(1, wrong));
            }
        });
        says("Promise 5", "if the row is locked, has no free seat, or 24 echoes are active", () -> {
            refuses(STATE, () -> withPhantomsLocked(), x -> x.add(0, 1)); // has free seats
            refuses(STATE, () -> filled(3, 0), x -> x.add(0, 1));
            refuses(STATE, () -> filled(12, 0), x -> x.add(0, 1));
            refuses(STATE, () -> filled(1, 6), x -> x.add(0, 1));
            refuses(STATE, ChangeSentences::with24Echoes, x -> x.add(0, 1)); // has a free seat
        });
    }

    private static EchoCensus with24Echoes() {
        EchoCensus x = chain(24);
        x.addPhantoms(0, 1);
        return x;
    }

    /** One row without a free seat. */
    private static EchoCensus filled(int capacity, int phantoms) {
        EchoCensus x = rows(capacity);
        if (phantoms > 0) {
            x.addPhantoms(0, phantoms);
        }
        for (int id = 0; id < capacity + phantoms; id++) {
            x.add(0, 1);
        }
        return x;
    }

    private static void move() {
        says("Promise 6", "Moves an echo to another row.", () -> {
            EchoCensus x = rows(2, 2, 2);
            addAll(x, 0, 5, 6);
            x.setHeir(0, 1);
            x.move(0, 2);
            is(2, () -> x.rowOf(0));
            is(0, () -> x.rowOf(1));
            is(1, () -> x.occupancy(0));
            is(0, () -> x.occupancy(1));
            is(1, () -> x.occupancy(2));
            is(5, () -> x.loudness(0));
            is(1, () -> x.heir(0));
        });
        says("Promise 6", "Returns the row from which it moves.", () -> {
            EchoCensus x = rows(1, 1, 1, 1, 1, 1, 1, 1);
            x.add(7, 1);
            int from = 7;
            for (int row : new int[] {0, 3, 1, 7, 6, 2}) {
                int due = from;
                is(due, () -> x.move(0, row));
                from = row;
            }
        });
        says("Promise 6", "if no active echo has this id", () -> refusesNoEchoes(id -> x -> x.move(id, 1)));
        says("Promise 6", "if there is no such row", () -> {
            for (int row : noRows(3)) {
                refuses(NO_ROW, Sentences::theatre, x -> x.move(0, row));
            }
        });
        says("Promise 6", "if the echo is already in this row, one of the two rows is locked", () -> {
            refuses(STATE, Sentences::theatre, x -> x.move(0, 0));
            refuses(STATE, Sentences::theatre, x -> x.move(3, 1));
            refuses(STATE, Sentences::theatre, x -> x.move(4, 1)); // from a locked row
            refuses(STATE, ChangeSentences::withRoomLocked, x -> x.move(0, 2)); // to a locked row
            refuses(STATE, ChangeSentences::withFullRow, x -> x.move(0, 1));
            EchoCensus x = withFullRow();
            x.addPhantoms(1, 1);
            is(0, () -> x.move(0, 1)); // to a phantom seat
            fails(STATE, () -> x.move(1, 1));
            EchoCensus y = with24Echoes();
            is(1, () -> y.move(1, 0));
        });
    }

    private static EchoCensus withRoomLocked() {
        EchoCensus x = theatre();
        x.unlock(2);
        x.addPhantoms(2, 6);
        x.lock(2);
        return x;
    }

    private static EchoCensus withFullRow() {
        EchoCensus x = rows(3, 1, 1);
        addAll(x, 0, 1, 2, 3);
        x.add(1, 4);
        return x;
    }

    private static void remove() {
        says("Promise 7", "Removes an echo.", () -> {
            EchoCensus x = rows(3, 3);
            addAll(x, 0, 1, 2, 3);
            addAll(x, 1, 4);
            x.remove(1);
            is(false, () -> x.isActive(1));
            is(3, x::echoCount);
            is(2, () -> x.occupancy(0));
            is(1, () -> x.occupancy(1));
            is(1, () -> x.loudness(0));
            is(3, () -> x.loudness(2));
            is(4, () -> x.loudness(3));
            is(1, () -> x.rowOf(3));
            x.remove(3);
            x.remove(0);
            x.remove(2);
            is(0, x::echoCount);
            is(4, x::removeCount);
        });
        says("Promise 7", "Returns the part of its loudness that is lost.", () -> {
            EchoCensus x = rows(6);
            addAll(x, 0, 7, 990, 3, 999, 999);
            x.setHeir(0, 1);
            x.setHeir(2, 1);
            x.setHeir(3, 4);
            is(0, () -> x.remove(0));
            is(1, () -> x.remove(2));
            is(999, () -> x.remove(1));
            is(999, () -> x.remove(3));
            is(999, () -> x.remove(4));
        });
        says("Promise 7", "if no active echo has this id", () -> refusesNoEchoes(id -> x -> x.remove(id)));
        says("Promise 7", "if the row of the echo is locked", () -> {
            refuses(STATE, Sentences::theatre, x -> x.remove(4));
            refuses(STATE, () -> withPhantomsLocked(), x -> x.remove(0)); // its heir does not matter
            EchoCensus x = theatre();
            x.lock(0);
            is(0, () -> x.remove(3)); // the row of its heir is locked
        });
    }

    private static void setHeir() {
        says("Promise 8", "Sets the heir of an echo, replacing the previous heir.", () -> {
            EchoCensus x = rows(4);
            addAll(x, 0, 1, 1, 1, 1);
            x.setHeir(0, 1);
            is(1, () -> x.heir(0));
            x.setHeir(0, 2);
            is(2, () -> x.heir(0));
            is(0, () -> x.bequeathers(1));
            is(1, () -> x.bequeathers(2));
            is(false, () -> x.hasHeir(1));
            is(false, () -> x.hasHeir(2));
            x.lock(0);
            x.setHeir(3, 0);
            is(2, () -> x.lastHeir(3));
        });
        says("Promise 8", "Returns the id of the previous heir, or -1 if there was none.", () -> {
            EchoCensus x = rows(4);
            addAll(x, 0, 1, 1, 1, 1);
            is(-1, () -> x.setHeir(3, 0));
            is(0, () -> x.setHeir(3, 2));
            is(2, () -> x.setHeir(3, 2));
            x.clearHeir(3);
            is(-1, () -> x.setHeir(3, 1));
            x.remove(1);
            is(-1, () -> x.setHeir(3, 0));
        });
        says("Promise 8", "if no active echo has one of the ids", () -> {
            refusesNoEchoes(id -> x -> x.setHeir(id, 2));
            refusesNoEchoes(id -> x -> x.setHeir(2, id));
            refusesNoEchoes(id -> x -> x.setHeir(id, id));
            refuses(NO_ELEMENT, Sentences::theatre, x -> x.setHeir(5, 6));
        });
        says("Promise 8", "if both ids are the same", () -> {
            for (int id : upTo(5)) {
                refuses(ARGUMENT, Sentences::theatre, x -> x.setHeir(id, id));
            }
        });
        says("Promise 8", "if the heirs would form a cycle", () -> {
            refuses(STATE, Sentences::theatre, x -> x.setHeir(1, 0));
            refuses(STATE, Sentences::theatre, x -> x.setHeir(1, 3));
            for (int length = 2; length <= 24; length++) {
                int last = length - 1;
                refuses(STATE, () -> chain(last + 1), x -> x.setHeir(last, 0));
            }
            EchoCensus x = chain(4);
            is(2, () -> x.setHeir(1, 3)); // a shorter way is no cycle
            is(3, () -> x.setHeir(2, 1));
            fails(STATE, () -> x.setHeir(3, 2));
            is(1, () -> theatre().setHeir(3, 0));
        });
    }

    private static void clearHeir() {
        says("Promise 9", "Takes the heir away from an echo.", () -> {
            EchoCensus x = chain(3);
            x.lock(0);
            x.clearHeir(0);
            is(false, () -> x.hasHeir(0));
            is(true, () -> x.hasHeir(1));
            is(0, () -> x.bequeathers(1));
            is(0, () -> x.lastHeir(0));
            x.unlock(0);
            is(1, () -> x.remove(0));
        });
        says("Promise 9", "Returns the id of the previous heir.", () -> {
            EchoCensus x = chain(24);
            for (int id : upTo(23)) {
                is(id + 1, () -> x.clearHeir(id));
            }
            x.setHeir(23, 0);
            is(0, () -> x.clearHeir(23));
        });
        says("Promise 9", "if no active echo has this id", () -> refusesNoEchoes(id -> x -> x.clearHeir(id)));
        says("Promise 9", "if the echo has no heir", () -> {
            refuses(STATE, Sentences::theatre, x -> x.clearHeir(1));
            refuses(STATE, Sentences::theatre, x -> x.clearHeir(4));
            EchoCensus x = chain(2);
            x.clearHeir(0);
            fails(STATE, () -> x.clearHeir(0));
            x.setHeir(0, 1);
            x.remove(1);
            fails(STATE, () -> x.clearHeir(0));
        });
    }

    private static void lock() {
        says("Promise 10", "Locks a row.", () -> {
            EchoCensus x = rows(2, 2, 2);
            x.lock(0);
            is(true, () -> x.isLocked(0));
            is(false, () -> x.isLocked(1));
            is(false, () -> x.isLocked(2));
        });
        says("Promise 10", "Returns the number of locked rows afterwards.", () -> {
            EchoCensus x = rows(1, 1, 1, 1, 1, 1, 1, 1);
            int[] order = {7, 0, 3, 1, 6, 2, 5, 4};
            for (int index : upTo(8)) {
                is(index + 1, () -> x.lock(order[index]));
            }
            x.unlock(7);
            is(8, () -> x.lock(7));
        });
        says("Promise 10", "if there is no such row", () -> refusesNoRows(row -> x -> x.lock(row)));
        says("Promise 10", "if the row is locked", () -> {
            refuses(STATE, Sentences::theatre, x -> x.lock(2));
            refuses(STATE, () -> withPhantomsLocked(), x -> x.lock(0));
        });
    }

    private static void unlock() {
        says("Promise 11", "Unlocks a row.", () -> {
            EchoCensus x = rows(2, 2, 2);
            x.lock(0);
            x.lock(1);
            x.lock(2);
            x.unlock(1);
            is(true, () -> x.isLocked(0));
            is(false, () -> x.isLocked(1));
            is(true, () -> x.isLocked(2));
            is(0, () -> x.add(1, 1));
        });
        says("Promise 11", "Returns the number of locked rows afterwards.", () -> {
            EchoCensus x = rows(1, 1, 1, 1, 1, 1, 1, 1);
            for (int row : upTo(8)) {
                x.lock(row);
            }
            int[] order = {7, 0, 3, 1, 6, 2, 5, 4};
            for (int index : upTo(8)) {
                is(7 - index, () -> x.unlock(order[index]));
            }
        });
        says("Promise 11", "if there is no such row", () -> refusesNoRows(row -> x -> x.unlock(row)));
        says("Promise 11", "if the row is not locked", () -> {
            refuses(STATE, Sentences::theatre, x -> x.unlock(0));
            refuses(STATE, Sentences::theatre, x -> x.unlock(1));
            EchoCensus x = theatre();
            x.unlock(2);
            fails(STATE, () -> x.unlock(2));
        });
    }

    private static void nameRow() {
        says("Promise 12", "Lets a box name a row.", () -> {
            EchoCensus x = rows(1, 1, 1);
            x.lock(2);
            x.nameRow('a', 2);
            x.nameRow('h', 1);
            is(2, () -> x.namedRow('a'));
            is(1, () -> x.namedRow('h'));
            x.nameRow('a', 0);
            is(0, () -> x.namedRow('a'));
            is(1, () -> x.namedRow('h'));
        });
        says("Promise 12", "Returns the row that the box named before, or -1 if it named none.", () -> {
            EchoCensus x = rows(1, 1, 1, 1, 1, 1, 1, 1);
            for (char box = 'a'; box <= 'h'; box++) {
                char name = box;
                is(-1, () -> x.nameRow(name, 0));
                is(0, () -> x.nameRow(name, 7));
                is(7, () -> x.nameRow(name, 7));
                is(7, () -> x.nameRow(name, 4));
            }
        });
        says("Promise 12", "if the name is not from 'a' to 'h'", () -> {
            for (char wrong : NO_BOXES) {
                refuses(ARGUMENT, Sentences::theatre, x -> x.nameRow(wrong, 0));
                refuses(ARGUMENT, Sentences::theatre, x -> x.nameRow(wrong, 3));
            }
        });
        says("Promise 12", "if there is no such row", () -> {
            refusesNoRows(row -> x -> x.nameRow('a', row));
            refusesNoRows(row -> x -> x.nameRow('h', row));
        });
    }

    private static void spread() {
        says("Promise 13", "Spreads a row.", () -> {
            EchoCensus x = rows(2, 3, 3);
            x.addPhantoms(0, 3);
            x.addPhantoms(1, 3);
            addAll(x, 0, 1, 2, 3, 4);
            addAll(x, 1, 5, 6, 7, 8);
            x.spread(0);
            is(2, () -> x.occupancy(0));
            is(4, () -> x.occupancy(1)); // stays crowded, and so does not take any
            is(2, () -> x.occupancy(2));
            is(2, () -> x.rowOf(3));
            is(2, () -> x.rowOf(2));
        });
        says("Promise 13", "Returns the number of echoes that moved.", () -> {
            for (int crowd : upTo(7)) {
                EchoCensus x = rows(1, 12);
                x.addPhantoms(0, 6);
                for (int id : upTo(1 + crowd)) {
                    x.add(0, 1 + id);
                }
                is(crowd, () -> x.spread(0));
                is(crowd, x::moveCount);
                is(0, () -> x.spread(0));
                is(0, () -> x.spread(1));
            }
        });
        says("Promise 13", "if there is no such row", () -> refusesNoRows(row -> x -> x.spread(row)));
        says("Promise 13", "if the row is locked", () -> {
            refuses(STATE, Sentences::theatre, x -> x.spread(2)); // even if it is not crowded
            refuses(STATE, () -> withPhantomsLocked(), x -> x.spread(0));
        });
    }
}
