import java.util.function.Function;

/** Promises 59 to 62: undo, and the saved copy. */
public final class UndoTest {
    private static final Class<IllegalStateException> STATE = IllegalStateException.class;

    public static void main(String[] args) {
        everyChange();
        changesWithoutEffect();
        atMost8();
        refusedChangesKeepTheHistory();
        whatUndoLeaves();
        savedCopy();
        Check.finish();
    }

    /** All that changes can change, but for the next free id, as a text. */
    private static String picture(EchoCensus x) {
        StringBuilder text = new StringBuilder();
        for (int row = 0; row < x.rowCount(); row++) {
            text.append(x.capacity(row)).append('+').append(x.phantoms(row));
            text.append(x.isLocked(row) ? "!" : "").append(' ');
        }
        for (int rank = 0; rank < x.echoCount(); rank++) {
            int id = x.idByRank(rank);
            text.append(id).append('@').append(x.rowOf(id)).append('=').append(x.loudness(id));
            text.append('>').append(x.hasHeir(id) ? x.heir(id) : -1).append(' ');
        }
        for (char box = 'a'; box <= 'h'; box++) {
            text.append(x.isNamed(box) ? x.namedRow(box) : -1).append(' ');
        }
        text.append(x.moveCount()).append(' ').append(x.removeCount()).append(' ');
        text.append(x.addedLoudness()).append(' ').append(x.lostLoudness());
        return text.toString();
    }

    private static EchoCensus example() {
        EchoCensus x = new EchoCensus();
        x.addRow(2);
        x.addRow(3);
        x.addRow(4);
        x.addPhantoms(0, 3);
        x.add(0, 10);
        x.add(0, 20);
        x.add(0, 30);
        x.add(1, 40);
        x.setHeir(0, 1);
        x.lock(2);
        x.nameRow('b', 1);
        return x;
    }

    /** Checks that the change alters the census and that undo takes it back. */
    private static void undoes(String what, Function<EchoCensus, Object> change) {
        EchoCensus x = example();
        String before = picture(x);
        Check.equal(what + " returns", false,
                () -> Check.answer(() -> change.apply(x)).contains("Exception"));
        Check.equal(what + " changes the census", false, () -> picture(x).equals(before));
        Check.equal(what + " can be undone", 8, x::undoableCount);
        Check.equal("undo of " + what, 7, x::undo);
        Check.equal("undoableCount after undo of " + what, 7, x::undoableCount);
        Check.equal("after undo of " + what, before, () -> picture(x));
        Check.equal("consistent after undo of " + what, true, x::isConsistent);
    }

    private static void everyChange() {
        undoes("addRow", x -> x.addRow(12));
        undoes("addPhantoms", x -> x.addPhantoms(1, 2));
        undoes("removePhantoms", x -> x.removePhantoms(0, 1));
        undoes("add", x -> x.add(1, 999));
        undoes("move", x -> x.move(3, 0));
        undoes("remove", x -> x.remove(1));
        undoes("remove with an heir", x -> x.remove(0));
        undoes("setHeir", x -> x.setHeir(0, 3));
        undoes("clearHeir", x -> x.clearHeir(0));
        undoes("lock", x -> x.lock(1));
        undoes("unlock", x -> x.unlock(2));
        undoes("nameRow", x -> x.nameRow('b', 2));
        undoes("spread", x -> x.spread(0));
        undoes("run", x -> Check.run(x, "move 3 0;unlock 2;remove 2;row 7"));
        EchoCensus x = example();
        x.add(1, 1);
        x.undo();
        Check.equal("the next free id after undo", 4, () -> x.add(1, 1));
    }

    private static void changesWithoutEffect() {
        EchoCensus x = new EchoCensus();
        x.addRow(1);
        x.nameRow('a', 0);
        Check.equal("spread without effect", 0, () -> x.spread(0));
        Check.equal("is a change", 3, x::undoableCount);
        Check.equal("nameRow without effect", 0, () -> x.nameRow('a', 0));
        Check.equal("is a change", 4, x::undoableCount);
        Check.equal("run without effect", "1", () -> Check.run(x, "spread 0"));
        Check.equal("is a change", 5, x::undoableCount);
        x.undo();
        x.undo();
        x.undo();
        Check.equal("the box is still named", true, () -> x.isNamed('a'));
        Check.equal("undo of the first naming", 1, x::undo);
        Check.equal("the box is not named", false, () -> x.isNamed('a'));
    }

    private static void atMost8() {
        EchoCensus x = new EchoCensus();
        Check.fails("undo at first", STATE, x::undo);
        x.addRow(12);
        for (int id = 0; id < 10; id++) {
            int due = Math.min(id + 1, 8);
            Check.equal("undoableCount", due, x::undoableCount);
            x.add(0, 1 + id);
        }
        for (int left = 7; left >= 0; left--) {
            int due = left;
            Check.equal("undo", due, x::undo);
            Check.equal("echoCount after undo", due + 2, x::echoCount);
        }
        Check.fails("a ninth undo", STATE, x::undo);
        Check.equal("echoCount", 2, x::echoCount);
        Check.equal("the next free id", 2, () -> x.add(0, 5));
        Check.equal("undoableCount", 1, x::undoableCount);
        for (int round = 0; round < 30; round++) {
            x.lock(0);
            x.unlock(0);
            x.undo();
            Check.equal("the later of two changes is undone", true, () -> x.isLocked(0));
            x.undo();
            x.remove(2);
            x.add(0, 5);
            x.undo();
            x.undo();
            Check.equal("isActive(2)", true, () -> x.isActive(2));
        }
    }

    private static void refusedChangesKeepTheHistory() {
        EchoCensus x = new EchoCensus();
        x.addRow(12);
        for (int id = 0; id < 9; id++) {
            x.add(0, 1 + id);
        }
        Check.fails("a refused change", STATE, () -> x.unlock(0));
        Check.equal("a refused run", STATE.getName(), () -> Check.run(x, "lock 0;lock 0"));
        Check.equal("a malformed run", IllegalArgumentException.class.getName(),
                () -> Check.run(x, "lock 0;lock"));
        Check.equal("nothing has changed", false, () -> x.isLocked(0));
        Check.equal("undoableCount", 8, x::undoableCount);
        for (int left = 7; left >= 0; left--) {
            int due = left;
            Check.equal("undo", due, x::undo);
            Check.equal("echoCount after undo", due + 1, x::echoCount);
            Check.equal("activeLoudness after undo", (due + 1) * (due + 2) / 2, x::activeLoudness);
        }
    }

    private static void whatUndoLeaves() {
        EchoCensus x = example();
        Check.run(x, "lock 9");
        Check.run(x, "lok");
        x.save();
        x.addRow(1);
        Check.equal("run", "1", () -> Check.run(x, "lock 0"));
        x.formatRow(0);
        Check.type(x, "unl");
        x.undo();
        Check.equal("undo of run leaves the line", "0[3/2+3]! 0:10 1:20 2:30", () -> Check.line(x));
        Check.equal("undo of run leaves the buffer", 4, () -> x.append('o'));
        Check.equal("errorPosition", 2, x::errorPosition);
        Check.equal("failedCommand", 0, x::failedCommand);
        x.undo();
        x.undo();
        Check.equal("the box is not named", false, () -> x.isNamed('b'));
        Check.equal("undo leaves the saved copy", 4, x::restore);
        Check.equal("the box is named again", true, () -> x.isNamed('b'));
        Check.equal("rowCount", 3, x::rowCount);
        Check.type(x, "ck 2");
        Check.equal("restore leaves the buffer", 1, x::run);
        Check.equal("isLocked(2)", false, () -> x.isLocked(2));
    }

    private static void savedCopy() {
        EchoCensus x = new EchoCensus();
        Check.fails("restore at first", STATE, x::restore);
        Check.equal("save of an empty census", 0, x::save);
        x.addRow(5);
        Check.equal("save is no change", 1, x::undoableCount);
        Check.equal("restore", 0, x::restore);
        Check.equal("rowCount", 0, x::rowCount);
        Check.fails("undo after restore", STATE, x::undo);
        EchoCensus y = example();
        String before = picture(y);
        Check.equal("save", 4, y::save);
        Check.equal("save keeps the history", 8, y::undoableCount);
        for (int round = 0; round < 3; round++) {
            y.remove(1);
            y.move(3, 0);
            y.lock(0);
            y.add(1, 500);
            y.nameRow('h', 0);
            Check.run(y, "row 3;spread 1");
            Check.equal("restore", 4, y::restore);
            Check.equal("the census after restore", before, () -> picture(y));
            Check.equal("undoableCount after restore", 0, y::undoableCount);
            Check.fails("undo after restore", STATE, y::undo);
            Check.equal("the next free id after restore", 4, () -> y.add(1, 1));
            Check.equal("undo of the first change after restore", 0, y::undo);
            Check.equal("the census after undo", before, () -> picture(y));
        }
        y.remove(0);
        Check.equal("a later copy", 3, y::save);
        y.remove(2);
        Check.equal("restore of the later copy", 3, y::restore);
        Check.equal("isActive(0)", false, () -> y.isActive(0));
        Check.equal("isActive(2)", true, () -> y.isActive(2));
        Check.equal("isConsistent", true, y::isConsistent);
    }
}
