import java.util.List;

/** Tests of the sentences of "Undo" and "Errors", and of the promises 59 to 62. */
final class UndoSentences extends Sentences {
    private UndoSentences() {
    }

    static void test() {
        changes();
        upTo8();
        untouchedByUndo();
        errors();
        counting();
        undoing();
        saving();
        restoring();
    }

    private static void changes() {
        says("Undo", "that return normally are changes, even if they have no effect", () -> {
            isChange(x -> x.addRow(12));
            isChange(x -> x.addPhantoms(1, 6));
            isChange(x -> x.removePhantoms(0, 2));
            isChange(x -> x.add(1, 999));
            isChange(x -> x.move(3, 0));
            isChange(x -> x.remove(0));
            isChange(x -> x.setHeir(0, 3));
            isChange(x -> x.clearHeir(0));
            isChange(x -> x.lock(0));
            isChange(x -> x.unlock(2));
            isChange(x -> x.nameRow('b', 0));
            isChange(x -> x.spread(0));
            isChange(EchoCensus::run);
            hasNoEffect(x -> x.setHeir(0, 1));
            hasNoEffect(x -> x.nameRow('b', 1));
            hasNoEffect(x -> x.spread(1));
            EchoCensus y = rows(1);
            is("1", () -> Check.run(y, "spread 0"));
            is("2", () -> Check.run(y, "lock 0;unlock 0"));
            is(3, y::undoableCount);
            isNoChange(x -> x.save());
            isNoChange(x -> x.append(';'));
            isNoChange(x -> x.formatRow(0));
            isNoChange(x -> x.formatEcho(0));
            isNoChange(x -> x.isConsistent());
            isNoChange(x -> x.lastHeirByDoubling(0));
        });
    }

    /** Three changes after the copy of an example, so that the next ones can be counted. */
    private static EchoCensus afterThree() {
        EchoCensus x = theatre();
        x.save();
        x.restore();
        x.addPhantoms(1, 1);
        x.removePhantoms(1, 1);
        x.spread(1);
        return x;
    }

    private static void isChange(Call call) {
        EchoCensus x = afterThree();
        String before = Picture.ofState(x);
        call.on(x);
        is(4, x::undoableCount);
        is(false, () -> Picture.ofState(x).equals(before));
        is(3, x::undo);
        is(before, () -> Picture.ofState(x));
        is(3, x::undoableCount);
    }

    private static void hasNoEffect(Call call) {
        EchoCensus x = afterThree();
        String before = Picture.ofState(x);
        call.on(x);
        is(before, () -> Picture.ofState(x));
        is(4, x::undoableCount);
        is(3, x::undo);
        is(before, () -> Picture.ofState(x));
    }

    private static void isNoChange(Call call) {
        EchoCensus x = afterThree();
        call.on(x);
        is(3, x::undoableCount);
    }

    private static void upTo8() {
        says("Undo", "Up to 8 changes can be undone, the latest change first.", () -> {
            for (int changes : upTo(22)) {
                EchoCensus x = rows(12, 12);
                x.save();
                x.restore();
                for (int id : upTo(changes)) {
                    x.add(id % 2, 1 + id);
                }
                for (int undone : upTo(Math.min(changes, 8))) {
                    is(Math.min(changes, 8) - undone - 1, x::undo);
                    is(false, () -> x.isActive(changes - undone - 1));
                    is(changes - undone - 1, x::echoCount);
                }
                fails(STATE, x::undo);
                is(Math.max(changes - 8, 0), x::echoCount);
            }
        });
    }

    private static void untouchedByUndo() {
        says("Undo", "Undo does not affect the input buffer", () -> {
            EchoCensus x = theatre();
            Check.type(x, "1;row 0");
            fails(STATE, x::run);
            is(true, () -> Check.run(x, "row 2").equals("1"));
            x.formatRow(0);
            Check.type(x, "row 12");
            x.save();
            is(7, x::undo); // the run
            is("0[3/2+3] 0:10 1:20 2:30", () -> Check.line(x));
            is(2, x::errorPosition);
            is(1, x::failedCommand);
            is(7, () -> x.append(';'));
            x.undo();
            fails(ARGUMENT, x::run);
            x.undo();
            is(7, x::errorPosition);
            while (x.undoableCount() > 0) {
                x.undo();
            }
            is(7, x::errorPosition);
            is(1, x::failedCommand);
            is("0[3/2+3] 0:10 1:20 2:30", () -> Check.line(x));
            is(1, () -> x.append(' ')); // the buffer of the run does not come back
            is(5, x::restore);
            is(4, x::rowCount);
            is(2, () -> x.capacity(3));
        });
    }

    private static void errors() {
        says("Errors", "leaves the census unchanged, unless its description says otherwise", () -> {
            String due = Picture.of(theatre());
            String past = Picture.ofPast(theatre());
            for (Call refused : refusedByTheatre()) {
                EchoCensus x = theatre();
                is(true, () -> Check.answer(() -> refused.on(x)).endsWith("Exception"));
                is(due, () -> Picture.of(x));
                EchoCensus y = theatre();
                is(true, () -> Check.answer(() -> refused.on(y)).endsWith("Exception"));
                is(past, () -> Picture.ofPast(y));
            }
            EchoCensus x = theatre();
            is(6, () -> x.append('x'));
            fails(ARGUMENT, x::run);
            is(5, x::errorPosition);
            is(0, x::failedCommand);
            is(STATE.getName(), () -> Check.run(x, "spread 0;spread 9"));
            is(5, x::errorPosition);
            is(1, x::failedCommand);
            EchoCensus y = rows(12);
            addAll(y, 0, 1, 2, 3, 4, 5, 6, 7, 8);
            fails(STATE, () -> y.unlock(0));
            is(STATE.getName(), () -> Check.run(y, "echo 0 9;unlock 0"));
            for (int left : new int[] {7, 6, 5, 4, 3, 2, 1, 0}) {
                is(left, y::undo);
                is(left, y::echoCount);
            }
        });
        says("Errors", "If several conditions of a method apply, the exception that is listed first is thrown.",
                UndoSentences::orderOfConditions);
    }

    /** Calls that theatre() refuses, at least one of each method that can be refused there. */
    private static List<Call> refusedByTheatre() {
        return List.of(x -> x.addRow(0), x -> x.addRow(13), x -> x.addPhantoms(3, 1), x -> x.addPhantoms(0, 0),
                x -> x.addPhantoms(2, 1), x -> x.addPhantoms(0, 4), x -> x.removePhantoms(3, 1),
                x -> x.removePhantoms(0, 7), x -> x.removePhantoms(2, 1), x -> x.removePhantoms(0, 4),
                x -> x.removePhantoms(0, 3), x -> x.add(3, 1), x -> x.add(0, 0), x -> x.add(2, 1),
                x -> x.move(5, 0), x -> x.move(0, 3), x -> x.move(0, 0), x -> x.move(0, 2), x -> x.move(4, 0),
                x -> x.remove(6), x -> x.remove(4), x -> x.setHeir(0, 6), x -> x.setHeir(6, 0),
                x -> x.setHeir(2, 2), x -> x.setHeir(1, 0), x -> x.clearHeir(6), x -> x.clearHeir(1),
                x -> x.lock(3), x -> x.lock(2), x -> x.unlock(3), x -> x.unlock(0), x -> x.nameRow('i', 0),
                x -> x.nameRow('b', 3), x -> x.spread(3), x -> x.spread(2), x -> x.capacity(3),
                x -> x.phantoms(3), x -> x.occupancy(3), x -> x.freeSeats(3), x -> x.rowLoudness(3),
                x -> x.isLocked(3), x -> x.isCrowded(3), x -> x.idInRow(3, 0), x -> x.idInRow(0, 3),
                x -> x.rowOf(6), x -> x.loudness(6), x -> x.positionInRow(6), x -> x.hasHeir(6),
                x -> x.heir(6), x -> x.heir(1), x -> x.lastHeir(6), x -> x.lastHeirByDoubling(6),
                x -> x.stepsToLastHeir(6), x -> x.bequeathers(6), x -> x.countInRows(0, 3),
                x -> x.countInRows(1, 0), x -> x.countInRowsByTree(0, 3), x -> x.countInRowsByTree(1, 0),
                x -> x.idByRank(5), x -> x.idByRankByTree(5), x -> x.rank(6), x -> x.isNamed('i'),
                x -> x.namedRow('i'), x -> x.namedRow('a'), x -> x.boxCount(3), x -> x.formatRow(3),
                x -> x.formatEcho(6), x -> x.lineChar(99), x -> x.append('\n'));
    }

    private static void orderOfConditions() {
        EchoCensus x = theatre();
        for (int row : noRows(3)) {
            fails(NO_ROW, () -> x.addPhantoms(row, 7));
            fails(NO_ROW, () -> x.removePhantoms(row, 0));
            fails(NO_ROW, () -> x.add(row, 1000));
            fails(NO_ELEMENT, () -> x.move(6, row));
            fails(NO_ROW, () -> x.move(4, row)); // from a locked row
            fails(ARGUMENT, () -> x.nameRow('i', row));
            fails(NO_ROW, () -> x.idInRow(row, 9));
            fails(NO_ROW, () -> x.idInRow(row, -1));
            fails(NO_ROW, () -> x.countInRows(row, row - 1));
            fails(NO_ROW, () -> x.countInRowsByTree(row, row - 1));
        }
        fails(NO_ROW, () -> x.countInRows(2, -1));
        fails(NO_ROW, () -> x.countInRowsByTree(2, -1));
        fails(NO_ROW, () -> x.countInRows(3, 0));
        fails(NO_ROW, () -> x.countInRowsByTree(3, 0));
        fails(ARGUMENT, () -> x.addPhantoms(2, 7)); // to a locked row, and more than 6
        fails(ARGUMENT, () -> x.removePhantoms(2, 7));
        fails(ARGUMENT, () -> x.removePhantoms(0, 7));
        fails(ARGUMENT, () -> x.add(2, 0));
        fails(NO_ELEMENT, () -> x.move(6, 2));
        fails(NO_ELEMENT, () -> x.setHeir(6, 6));
        fails(ARGUMENT, () -> x.setHeir(0, 0));
        fails(ARGUMENT, () -> x.setHeir(1, 1));
        EchoCensus full = rows(12, 12, 1, 1, 1, 1, 1, 1);
        for (int id : upTo(24)) {
            full.add(id % 2, 1);
        }
        fails(ARGUMENT, () -> full.addRow(0));
        fails(ARGUMENT, () -> full.addRow(13));
        fails(ARGUMENT, () -> full.add(0, 0));
        fails(ARGUMENT, () -> full.add(0, 1000));
        fails(NO_ROW, () -> full.add(8, 1));
        Check.type(full, "lock 9;row x" + " ".repeat(48));
        fails(ARGUMENT, () -> full.append('\n'));
        fails(STATE, () -> full.append('\\'));
        fails(ARGUMENT, full::run);
        is(11, full::errorPosition);
        fails(NO_ELEMENT, full::failedCommand);
    }

    private static void counting() {
        says("Promise 59", "Returns the number of changes that can be undone.", () -> {
            EchoCensus x = rows(1, 1);
            is(2, x::undoableCount);
            x.undo();
            is(1, x::undoableCount);
            x.lock(0);
            is(2, x::undoableCount);
        });
        says("Promise 59", "0 to 8", () -> {
            EchoCensus x = new EchoCensus();
            is(0, x::undoableCount);
            x.addRow(12);
            for (int changes = 1; changes <= 20; changes++) {
                is(Math.min(changes, 8), x::undoableCount);
                x.spread(0);
            }
            for (int left : upTo(8)) {
                x.undo();
                is(7 - left, x::undoableCount);
            }
            fails(STATE, x::undo);
            is(0, x::undoableCount);
        });
    }

    private static void undoing() {
        says("Promise 60", "Undoes the latest change that has not been undone.", () -> {
            EchoCensus x = rows(12);
            x.add(0, 1);
            x.lock(0);
            x.undo();
            is(false, () -> x.isLocked(0));
            is(true, () -> x.isActive(0));
            x.nameRow('a', 0);
            x.undo();
            is(false, () -> x.isNamed('a'));
            is(true, () -> x.isActive(0));
            x.undo();
            is(false, () -> x.isActive(0));
            is(1, x::rowCount);
            x.undo();
            is(0, x::rowCount);
        });
        says("Promise 60", "Returns the number of changes that can still be undone.", () -> {
            EchoCensus x = rows(1, 2, 3, 4, 5, 6, 7, 8);
            for (int undone : upTo(8)) {
                is(7 - undone, x::undo);
            }
            x.addRow(1);
            is(0, x::undo);
        });
        says("Promise 60", "if no change can be undone", () -> {
            refuses(STATE, EchoCensus::new, EchoCensus::undo);
            refuses(STATE, () -> {
                EchoCensus x = rows(1, 2, 3, 4, 5, 6, 7, 8);
                x.lock(0);
                while (x.undoableCount() > 0) {
                    x.undo();
                }
                return x;
            }, EchoCensus::undo);
            refuses(STATE, () -> {
                EchoCensus x = theatre();
                x.restore();
                return x;
            }, EchoCensus::undo);
            refuses(STATE, () -> {
                EchoCensus x = new EchoCensus();
                Check.run(x, "row 0");
                return x;
            }, EchoCensus::undo);
        });
    }

    private static void saving() {
        says("Promise 61", "Saves a copy of everything that changes can change, replacing an earlier copy.", () -> {
            EchoCensus x = theatre();
            String before = Picture.ofState(x);
            x.save();
            x.addRow(12);
            x.addPhantoms(1, 6);
            x.removePhantoms(0, 1);
            x.add(1, 999);
            x.move(3, 0);
            x.setHeir(6, 2);
            x.remove(1);
            x.clearHeir(6);
            x.lock(0);
            x.unlock(2);
            x.nameRow('b', 0);
            x.nameRow('a', 3);
            x.spread(1);
            is(5, x::restore);
            is(before, () -> Picture.ofState(x));
            is(6, () -> x.add(1, 1));
            x.save();
            x.remove(6);
            x.restore();
            is(true, () -> x.isActive(6));
        });
        says("Promise 61", "Returns the number of active echoes.", () -> {
            is(0, () -> new EchoCensus().save());
            EchoCensus x = chain(24);
            is(24, x::save);
            x.remove(7);
            is(23, x::save);
            is(5, () -> theatre().save());
        });
    }

    private static void restoring() {
        says("Promise 62", "Restores the saved copy, which stays available.", () -> {
            EchoCensus x = theatre();
            x.save();
            String before = Picture.ofState(x);
            for (int round = 0; round < 4; round++) {
                x.setHeir(1, 2);
                x.lock(0);
                x.add(1, 5);
                x.nameRow('c', 2);
                is(5, x::restore);
                is(before, () -> Picture.ofState(x));
            }
            EchoCensus empty = new EchoCensus();
            empty.save();
            empty.addRow(1);
            is(0, empty::restore);
            is(0, empty::rowCount);
        });
        says("Promise 62", "No changes can be undone afterwards.", () -> {
            EchoCensus x = theatre();
            is(8, x::undoableCount);
            x.restore();
            is(0, x::undoableCount);
            fails(STATE, x::undo);
            x.lock(0);
            is(0, x::undo);
            is(false, () -> x.isLocked(0));
            fails(STATE, x::undo);
            EchoCensus y = rows(1);
            y.save();
            y.restore();
            is(0, y::undoableCount);
        });
        says("Promise 62", "Returns the number of active echoes.", () -> {
            EchoCensus x = chain(24);
            x.save();
            x.remove(0);
            is(24, x::restore);
            is(24, x::echoCount);
            EchoCensus y = rows(2);
            y.save();
            y.add(0, 1);
            is(0, y::restore);
        });
        says("Promise 62", "if there is no saved copy", () -> {
            refuses(STATE, EchoCensus::new, EchoCensus::restore);
            refuses(STATE, () -> rows(1, 2), EchoCensus::restore);
        });
    }
}
