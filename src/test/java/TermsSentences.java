/** Tests of the sentences of "What it is" and of "Terms", from "Rows" to "Totals". */
final class TermsSentences extends Sentences {
    private TermsSentences() {
    }

    static void test() {
        calls();
        rows();
        seats();
        echoes();
        heirs();
        inheriting();
        spreading();
        waysOfSpreading();
        ranks();
        boxes();
        totals();
    }

    private static void calls() {
        says("What it is", "at most 512 calls", () -> {
            EchoCensus x = rows(12);
            for (int id : upTo(255)) {
                is(id, () -> x.add(0, 999));
                is(999, () -> x.remove(id));
            }
            is(255 * 999, x::lostLoudness); // the 512th call
            EchoCensus most = rows(12, 12);
            for (int id : upTo(24)) {
                is(id, () -> most.add(id % 2, 1));
            }
            for (int id : upTo(243)) {
                is(1, () -> most.remove(id));
                is(24 + id, () -> most.add(id % 2, 1)); // at last 266, by the 512th call
            }
            EchoCensus y = rows(12);
            for (int round = 0; round < 170; round++) {
                is(1, () -> y.lock(0));
                is(0, () -> y.unlock(0));
                is(0, () -> y.spread(0));
            }
            is(7, y::undo); // the 512th call
            EchoCensus z = new EchoCensus();
            for (int round = 0; round < 8; round++) {
                Check.type(z, "row 1;".repeat(10));
                fails(ARGUMENT, z::run);
            }
            Check.type(z, "row 12;row 11;unlock 1");
            fails(STATE, z::run);
            is(2, z::failedCommand); // the 512th call
        });
    }

    private static void rows() {
        says("Rows", "at most 8 rows, numbered from 0 in the order", () -> {
            EchoCensus x = new EchoCensus();
            for (int row : upTo(8)) {
                is(row, () -> x.addRow(12 - row));
            }
            fails(STATE, () -> x.addRow(1));
            is(8, x::rowCount);
            for (int row : upTo(8)) {
                is(12 - row, () -> x.capacity(row));
            }
        });
        says("Rows", "Rows are never removed.", () -> {
            EchoCensus x = rows(1, 2, 3);
            x.add(2, 7);
            x.move(0, 1);
            x.remove(0);
            x.lock(2);
            x.unlock(2);
            x.addPhantoms(2, 1);
            x.removePhantoms(2, 1);
            x.spread(2);
            is(3, x::rowCount);
            is(3, () -> x.capacity(2));
        });
        says("Rows", "A row can be locked.", () -> {
            EchoCensus x = rows(1, 1, 1);
            x.lock(1);
            is(false, () -> x.isLocked(0));
            is(true, () -> x.isLocked(1));
            is(false, () -> x.isLocked(2));
            fails(STATE, () -> x.add(1, 1));
        });
        says("Rows", "initially unlocked", () -> {
            EchoCensus x = new EchoCensus();
            for (int row : upTo(8)) {
                x.addRow(1);
                is(false, () -> x.isLocked(row));
                fails(STATE, () -> x.unlock(row));
                is(row + 1, () -> x.lock(row));
            }
        });
    }

    private static void seats() {
        says("Rows", "a capacity from 1 to 12", () -> {
            for (int capacity : upTo(14)) {
                EchoCensus x = new EchoCensus();
                if (capacity < 1 || capacity > 12) {
                    fails(ARGUMENT, () -> x.addRow(capacity));
                    continue;
                }
                x.addRow(capacity);
                is(0, () -> x.phantoms(0));
                is(capacity, () -> x.freeSeats(0));
                for (int seats : upTo(7)) {
                    is(seats, () -> x.phantoms(0));
                    if (seats < 6) {
                        x.addPhantoms(0, 1);
                    }
                }
                fails(STATE, () -> x.addPhantoms(0, 1));
                is(0, () -> x.removePhantoms(0, 6));
                fails(STATE, () -> x.removePhantoms(0, 1));
                is(capacity, () -> x.capacity(0));
            }
        });
        says("Rows", "never greater than the number of its real and phantom seats together", () -> {
            for (int phantoms : upTo(7)) {
                EchoCensus x = rows(2, 1);
                if (phantoms > 0) {
                    x.addPhantoms(0, phantoms);
                }
                for (int id : upTo(2 + phantoms)) {
                    is(id, () -> x.add(0, 1));
                }
                fails(STATE, () -> x.add(0, 1));
                x.add(1, 1);
                fails(STATE, () -> x.move(2 + phantoms, 0));
                fails(STATE, () -> x.removePhantoms(0, 1));
                is(2 + phantoms, () -> x.occupancy(0));
                is(0, () -> x.spread(0));
                is(1, () -> x.occupancy(1));
            }
        });
        says("Terms", "Every echo occupies one seat of exactly one row.", () -> {
            EchoCensus x = rows(2, 2, 2);
            x.addPhantoms(1, 1);
            occupy(x, 0, 0, 0);
            x.add(1, 1);
            occupy(x, 0, 1, 0);
            addAll(x, 1, 2, 3);
            occupy(x, 0, 3, 0);
            x.move(0, 2);
            occupy(x, 0, 2, 1);
            x.move(0, 1);
            x.spread(1);
            occupy(x, 0, 2, 1);
            x.remove(2);
            occupy(x, 0, 2, 0);
        });
    }

    /** Checks how many seats of the three rows of two, one with a phantom seat, are taken. */
    private static void occupy(EchoCensus x, int... taken) {
        is(taken[0] + taken[1] + taken[2], x::echoCount);
        for (int row : upTo(3)) {
            is(taken[row], () -> x.occupancy(row));
            is((row == 1 ? 3 : 2) - taken[row], () -> x.freeSeats(row));
        }
    }

    private static void echoes() {
        says("Echoes", "the first echo has id 0", () -> {
            EchoCensus x = rows(12, 12);
            for (int id : upTo(100)) {
                is(id, () -> x.add(id % 2, 1));
                if (id % 2 == 1) {
                    x.remove(id); // its id must not be given again
                } else if (id > 0) {
                    x.remove(id - 2);
                }
            }
        });
        says("Echoes", "Undo and restore also take back the next free id.", () -> {
            EchoCensus x = rows(12);
            is(0, x::save);
            is(0, () -> x.add(0, 1));
            x.undo();
            is(0, () -> x.add(0, 2));
            is(1, () -> x.add(0, 3));
            x.remove(0);
            x.remove(1);
            x.undo();
            x.undo();
            x.undo();
            is(1, () -> x.add(0, 4));
            x.restore();
            is(0, () -> x.add(0, 5));
        });
        says("Echoes", "At most 24 echoes are active at the same time.", () -> {
            EchoCensus x = rows(12, 12, 12);
            for (int id : upTo(24)) {
                is(id, () -> x.add(id / 12, 1));
            }
            fails(STATE, () -> x.add(2, 1));
            is(24, x::echoCount);
            x.remove(23);
            is(24, () -> x.add(2, 1));
            fails(STATE, () -> x.add(2, 1));
            x.remove(0);
            x.remove(1);
            is(25, () -> x.add(2, 1));
            is(26, () -> x.add(2, 1));
            fails(STATE, () -> x.add(0, 1));
        });
        says("Echoes", "An echo is active until it is removed.", () -> {
            EchoCensus x = rows(1, 1);
            x.addPhantoms(0, 1);
            is(false, () -> x.isActive(0));
            x.add(0, 1);
            x.add(0, 1);
            x.setHeir(0, 1);
            x.spread(0);
            x.lock(1);
            is(true, () -> x.isActive(0));
            is(true, () -> x.isActive(1));
            x.unlock(1);
            x.remove(0);
            is(false, () -> x.isActive(0));
            is(true, () -> x.isActive(1));
            is(1, x::echoCount);
        });
        says("Echoes", "The loudness of an echo is from 1 to 999.", () -> {
            EchoCensus x = rows(3);
            fails(ARGUMENT, () -> x.add(0, 0));
            fails(ARGUMENT, () -> x.add(0, 1000));
            x.add(0, 1);
            x.add(0, 999);
            is(1, () -> x.loudness(0));
            is(999, () -> x.loudness(1));
            x.setHeir(0, 1);
            x.remove(0);
            is(999, () -> x.loudness(1));
        });
    }

    private static void heirs() {
        says("Heirs", "An active echo can have another active echo as its heir.", () -> {
            EchoCensus x = rows(3);
            addAll(x, 0, 1, 1, 1);
            x.remove(2);
            x.setHeir(0, 1);
            is(1, () -> x.heir(0));
            fails(NO_ELEMENT, () -> x.setHeir(0, 2));
            fails(NO_ELEMENT, () -> x.setHeir(2, 0));
            fails(ARGUMENT, () -> x.setHeir(0, 0));
        });
        says("Heirs", "Heirs never form a cycle.", () -> {
            EchoCensus x = chain(24);
            for (int heir : upTo(24)) {
                for (int id = heir + 1; id < 24; id++) {
                    int later = id;
                    fails(STATE, () -> x.setHeir(later, heir));
                }
            }
            x.remove(1);
            fails(STATE, () -> x.setHeir(23, 0));
            is(23, () -> x.lastHeir(0));
            EchoCensus y = chain(3);
            is(1, () -> y.clearHeir(0));
            is(-1, () -> y.setHeir(2, 0));
            fails(STATE, () -> y.setHeir(0, 1));
        });
        says("Heirs", "the last heir of an echo without an heir is the echo itself", () -> {
            for (int id : upTo(24)) {
                EchoCensus x = chain(24);
                x.clearHeir(20);
                is(id <= 20 ? 20 : 23, () -> x.lastHeir(id));
                is(id <= 20 ? 20 : 23, () -> x.lastHeirByDoubling(id));
                int last = id;
                for (int step = 0; step < 24 && x.hasHeir(last); step++) {
                    last = x.heir(last);
                }
                int due = last;
                is(due, () -> x.lastHeir(id));
                is(due, () -> x.lastHeirByDoubling(id));
            }
            EchoCensus alone = rows(1);
            alone.add(0, 1);
            is(0, () -> alone.lastHeir(0));
            is(0, () -> alone.lastHeirByDoubling(0));
        });
    }

    private static void inheriting() {
        says("Heirs", "but not above 999; the part above 999 is lost", () -> {
            inherits(1, 1, 2, 0);
            inherits(1, 997, 998, 0);
            inherits(1, 998, 999, 0);
            inherits(998, 1, 999, 0);
            inherits(2, 998, 999, 1);
            inherits(1, 999, 999, 1);
            inherits(999, 1, 999, 1);
            inherits(999, 999, 999, 999);
        });
        says("Heirs", "An heir in a locked row inherits like any other.", () -> {
            EchoCensus x = rows(3, 1);
            x.add(1, 500);
            addAll(x, 0, 400, 200);
            x.setHeir(1, 0);
            x.setHeir(2, 0);
            x.lock(1);
            is(0, () -> x.remove(1));
            is(900, () -> x.loudness(0));
            is(101, () -> x.remove(2));
            is(999, () -> x.loudness(0));
            is(101, x::lostLoudness);
        });
        says("Heirs", "If it has no heir, its whole loudness is lost.", () -> {
            EchoCensus x = rows(4);
            addAll(x, 0, 1, 999, 500, 3);
            x.setHeir(3, 0);
            is(1, () -> x.remove(0));
            is(999, () -> x.remove(1));
            is(3, () -> x.remove(3));
            is(500, () -> x.loudness(2));
            is(1003, x::lostLoudness);
        });
        says("Heirs", "gets the heir of the removed echo as its new heir, or no heir", () -> {
            EchoCensus x = rows(5, 2);
            addAll(x, 0, 1, 1, 1, 1, 1);
            addAll(x, 1, 1, 1);
            x.setHeir(0, 3);
            x.setHeir(5, 3);
            x.setHeir(4, 3);
            x.setHeir(3, 2);
            x.setHeir(6, 4);
            x.lock(1);
            x.remove(3);
            is(2, () -> x.heir(0));
            is(2, () -> x.heir(4));
            is(2, () -> x.heir(5));
            is(4, () -> x.heir(6));
            is(3, () -> x.bequeathers(2));
            x.remove(2);
            is(false, () -> x.hasHeir(0));
            is(false, () -> x.hasHeir(4));
            is(false, () -> x.hasHeir(5));
            is(4, () -> x.heir(6));
        });
    }

    private static void inherits(int loudness, int heirsLoudness, int afterwards, int lost) {
        EchoCensus x = rows(2);
        addAll(x, 0, loudness, heirsLoudness);
        x.setHeir(0, 1);
        is(lost, () -> x.remove(0));
        is(afterwards, () -> x.loudness(1));
        is(lost, x::lostLoudness);
    }

    private static void spreading() {
        says("Spreading", "A row is crowded if it has more echoes than real seats.", () -> {
            EchoCensus x = rows(2);
            x.addPhantoms(0, 6);
            for (int echoes : upTo(9)) {
                is(echoes > 2, () -> x.isCrowded(0));
                if (echoes < 8) {
                    x.add(0, 1);
                }
            }
            for (int id : upTo(6)) {
                is(true, () -> x.isCrowded(0));
                x.remove(id);
            }
            is(false, () -> x.isCrowded(0));
            x.removePhantoms(0, 6);
            is(false, () -> x.isCrowded(0));
        });
        says("Spreading", "repeats the following step as long as the row is crowded", () -> {
            EchoCensus x = rows(1, 12, 12);
            x.addPhantoms(0, 6);
            addAll(x, 0, 1, 2, 3, 4, 5, 6, 7);
            is(6, () -> x.spread(0));
            is(1, () -> x.occupancy(0));
            is(0, () -> x.rowOf(0));
            is(6, () -> x.occupancy(1));
            is(0, () -> x.spread(0));
            EchoCensus full = rows(12, 12);
            addAll(full, 0, 1, 1, 1, 1, 1, 1, 1, 1, 1, 1, 1, 1);
            is(0, () -> full.spread(0));
            EchoCensus most = rows(12, 12);
            most.addPhantoms(0, 6);
            addAll(most, 0, 1, 1, 1, 1, 1, 1, 1, 1, 1, 1, 1, 1, 1, 1, 1, 1, 1, 1);
            is(6, () -> most.spread(0));
            is(12, () -> most.occupancy(0));
        });
        says("Spreading", "If there is no such row, spreading ends.", () -> {
            EchoCensus alone = rows(1);
            alone.addPhantoms(0, 2);
            addAll(alone, 0, 1, 2, 3);
            is(0, () -> alone.spread(0));
            is(3, () -> alone.occupancy(0));
            EchoCensus x = rows(1, 1, 1, 5);
            x.addPhantoms(1, 6);
            x.addPhantoms(2, 6);
            x.lock(3);
            x.add(0, 1);
            addAll(x, 1, 5, 5, 5, 5);
            is(1, () -> x.spread(1)); // just to row 2: the others are full or locked
            is(0, () -> x.spread(1));
            is(3, () -> x.occupancy(1));
            is(true, () -> x.isCrowded(1));
            is(1, x::moveCount);
        });
    }

    private static void waysOfSpreading() {
        says("Spreading", "and continuing with row 0 after the last row", () -> {
            loudestGoFirst();
            lowestIdsGoFirst();
            for (int from : upTo(8)) {
                goesRound(from);
            }
            passesOver();
        });
    }

    private static void loudestGoFirst() {
        EchoCensus x = rows(2, 1, 1, 1);
        x.addPhantoms(0, 3);
        addAll(x, 0, 998, 1, 999, 500, 2);
        is(3, () -> x.spread(0));
        is(1, () -> x.rowOf(2));
        is(2, () -> x.rowOf(0));
        is(3, () -> x.rowOf(3));
        is(0, () -> x.rowOf(1));
        is(0, () -> x.rowOf(4));
    }

    private static void lowestIdsGoFirst() {
        EchoCensus x = rows(1, 1, 1, 1);
        x.addPhantoms(0, 4);
        x.add(1, 7);
        addAll(x, 0, 6, 7, 7);
        x.move(0, 0); // the last to come has the lowest id
        is(3, () -> x.spread(0));
        is(1, () -> x.rowOf(0));
        is(2, () -> x.rowOf(2));
        is(3, () -> x.rowOf(3));
        is(0, () -> x.rowOf(1));
    }

    /** Spreads eight echoes of one row over eight rows of one seat each. */
    private static void goesRound(int from) {
        EchoCensus x = rows(1, 1, 1, 1, 1, 1, 1, 1);
        x.addPhantoms(from, 6);
        addAll(x, from, 900, 800, 700, 600, 500, 400, 300);
        is(6, () -> x.spread(from));
        for (int id : upTo(7)) {
            is(id == 6 ? from : (from + 1 + id) % 8, () -> x.rowOf(id));
        }
    }

    /** Each step begins with the next row again; locked rows and rows with phantom seats alone are left. */
    private static void passesOver() {
        EchoCensus x = rows(1, 2, 1, 2, 3);
        x.addPhantoms(3, 6);
        x.addPhantoms(0, 6);
        x.addPhantoms(4, 6);
        addAll(x, 4, 1, 1, 1);
        x.lock(1);
        addAll(x, 3, 60, 50, 40, 30, 20, 10);
        is(2, () -> x.spread(3)); // row 4 has no real seat, row 1 is locked
        is(0, () -> x.rowOf(3));
        is(2, () -> x.rowOf(4));
        x.unlock(1);
        x.remove(0);
        is(2, () -> x.spread(3));
        is(4, () -> x.rowOf(5));
        is(1, () -> x.rowOf(6));
        is(2, () -> x.occupancy(3));
        EchoCensus y = rows(1, 3, 3);
        y.addPhantoms(0, 6);
        addAll(y, 0, 9, 8, 7, 6);
        is(3, () -> y.spread(0));
        is(3, () -> y.occupancy(1));
        is(0, () -> y.occupancy(2));
    }

    private static void ranks() {
        says("Ranks", "by row, and within a row by id", () -> {
            EchoCensus x = rows(3, 3, 3);
            x.add(2, 1);
            addAll(x, 1, 9, 1);
            addAll(x, 0, 1, 5);
            x.move(2, 0);
            x.move(0, 1);
            int[] byRank = {2, 3, 4, 0, 1};
            for (int rank : upTo(5)) {
                is(byRank[rank], () -> x.idByRank(rank));
                is(byRank[rank], () -> x.idByRankByTree(rank));
                is(rank, () -> x.rank(byRank[rank]));
            }
        });
        says("Ranks", "The lowest rank is 0.", () -> {
            EchoCensus x = rows(1, 1, 1);
            fails(NO_ELEMENT, () -> x.idByRank(0));
            fails(NO_ELEMENT, () -> x.idByRankByTree(0));
            x.add(2, 1);
            is(0, () -> x.rank(0));
            is(0, () -> x.idByRank(0));
            is(0, () -> x.idByRankByTree(0));
            x.add(1, 1);
            is(0, () -> x.rank(1));
            is(1, () -> x.idByRank(0));
            is(1, () -> x.idByRankByTree(0));
            fails(NO_ELEMENT, () -> x.idByRank(-1));
            fails(NO_ELEMENT, () -> x.idByRankByTree(-1));
        });
    }

    private static void boxes() {
        says("Boxes", "eight boxes with the names 'a' to 'h'", () -> {
            EchoCensus x = rows(1, 1, 1, 1, 1, 1, 1, 1);
            for (int box : upTo(8)) {
                is(-1, () -> x.nameRow((char) ('a' + box), 7 - box));
            }
            for (int box : upTo(8)) {
                is(7 - box, () -> x.namedRow((char) ('a' + box)));
            }
            for (char box : NO_BOXES) {
                fails(ARGUMENT, () -> x.nameRow(box, 0));
                fails(ARGUMENT, () -> x.isNamed(box));
                fails(ARGUMENT, () -> x.namedRow(box));
            }
        });
        says("Boxes", "A box names one row or no row, initially no row.", () -> {
            EchoCensus x = rows(1, 1);
            for (char box = 'a'; box <= 'h'; box++) {
                char name = box;
                is(false, () -> x.isNamed(name));
                fails(NO_ELEMENT, () -> x.namedRow(name));
            }
            x.nameRow('e', 0);
            x.nameRow('e', 1);
            is(1, () -> x.namedRow('e'));
            is(0, () -> x.boxCount(0));
            is(1, () -> x.boxCount(1));
            is(false, () -> x.isNamed('d'));
            is(false, () -> x.isNamed('f'));
        });
        says("Boxes", "Several boxes can name the same row.", () -> {
            EchoCensus x = rows(1, 1);
            for (char box = 'a'; box <= 'h'; box++) {
                char name = box;
                is(-1, () -> x.nameRow(name, 1));
            }
            for (char box = 'a'; box <= 'h'; box++) {
                char name = box;
                is(1, () -> x.namedRow(name));
            }
            is(8, () -> x.boxCount(1));
            is(0, () -> x.boxCount(0));
        });
    }

    private static void totals() {
        says("Totals", "is always equal to the loudness of all active echoes plus", () -> {
            EchoCensus x = rows(1, 9);
            x.addPhantoms(0, 6);
            balances(x, 0, 0);
            addAll(x, 0, 999, 998, 1, 300);
            balances(x, 2298, 0);
            x.setHeir(0, 1);
            x.setHeir(2, 3);
            x.save();
            x.remove(0);
            balances(x, 2298, 998);
            x.remove(2);
            balances(x, 2298, 998);
            x.remove(3);
            balances(x, 2298, 1299);
            x.undo();
            balances(x, 2298, 998);
            x.add(1, 7);
            x.move(4, 0);
            x.spread(0);
            balances(x, 2305, 998);
            x.restore();
            balances(x, 2298, 0);
            for (int id : upTo(4)) {
                x.remove(id);
            }
            balances(x, 2298, 2298);
        });
    }

    private static void balances(EchoCensus x, int added, int lost) {
        is(added, x::addedLoudness);
        is(lost, x::lostLoudness);
        is(added - lost, x::activeLoudness);
        is(true, x::isConsistent);
    }
}
