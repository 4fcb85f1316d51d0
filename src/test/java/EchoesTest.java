import java.util.NoSuchElementException;

/** Promises 5 to 7, 13, 22 to 27 and 44 to 48: echoes, their ways and their loudness. */
public final class EchoesTest {
    private static final Class<NoSuchElementException> NO_ECHO = NoSuchElementException.class;
    private static final Class<IndexOutOfBoundsException> NO_ROW = IndexOutOfBoundsException.class;
    private static final Class<IllegalArgumentException> ARGUMENT = IllegalArgumentException.class;
    private static final Class<IllegalStateException> STATE = IllegalStateException.class;
    private static final int[] FAR = {-1, 24, 999, Integer.MIN_VALUE, Integer.MAX_VALUE};

    public static void main(String[] args) {
        adding();
        atMost24();
        moving();
        removing();
        spreading();
        spreadingGoesRound();
        spreadingEnds();
        positions();
        unknownEchoes();
        Check.finish();
    }

    private static void adding() {
        EchoCensus x = new EchoCensus();
        Check.fails("add without rows", NO_ROW, () -> x.add(0, 0));
        x.addRow(2);
        for (int wrong : new int[] {0, 1000, -1, Integer.MIN_VALUE, Integer.MAX_VALUE}) {
            Check.fails("add(0, " + wrong + ")", ARGUMENT, () -> x.add(0, wrong));
            Check.fails("add(1, " + wrong + ")", NO_ROW, () -> x.add(1, wrong));
        }
        for (int row : FAR) {
            Check.fails("add(" + row + ", 1)", NO_ROW, () -> x.add(row, 1));
        }
        Check.equal("add(0, 1)", 0, () -> x.add(0, 1));
        Check.equal("add(0, 999)", 1, () -> x.add(0, 999));
        Check.fails("add to a full row", STATE, () -> x.add(0, 5));
        Check.fails("a bad loudness in a full row", ARGUMENT, () -> x.add(0, 0));
        x.addPhantoms(0, 1);
        x.lock(0);
        Check.fails("add to a locked row", STATE, () -> x.add(0, 5));
        x.unlock(0);
        Check.equal("add to a phantom seat", 2, () -> x.add(0, 5));
        x.remove(2);
        Check.equal("ids are not used again", 3, () -> x.add(0, 7));
        Check.equal("addedLoudness", 1012, x::addedLoudness);
        Check.equal("activeLoudness", 1007, x::activeLoudness);
        Check.equal("isActive(2)", false, () -> x.isActive(2));
        Check.equal("isActive(3)", true, () -> x.isActive(3));
        Check.equal("isActive(4)", false, () -> x.isActive(4));
    }

    private static void atMost24() {
        EchoCensus x = new EchoCensus();
        x.addRow(12);
        x.addRow(12);
        x.addRow(12);
        for (int id = 0; id < 24; id++) {
            int row = id % 3;
            Check.equal("add number " + id, id, () -> x.add(row, 999));
        }
        Check.fails("a 25th echo", STATE, () -> x.add(0, 1));
        Check.equal("echoCount", 24, x::echoCount);
        Check.equal("activeLoudness", 24 * 999, x::activeLoudness);
        Check.equal("isConsistent", true, x::isConsistent);
        Check.equal("rowLoudness(2)", 8 * 999, () -> x.rowLoudness(2));
        Check.equal("loudest", 0, x::loudest);
        Check.equal("bequeathers(23)", 0, () -> x.bequeathers(23));
        Check.equal("idInRow(2, 7)", 23, () -> x.idInRow(2, 7));
        x.remove(5);
        Check.equal("echoCount", 23, x::echoCount);
        Check.equal("a place is free again", 24, () -> x.add(0, 1));
        Check.fails("a 25th echo", STATE, () -> x.add(1, 1));
    }

    private static void moving() {
        EchoCensus x = new EchoCensus();
        x.addRow(2);
        x.addRow(1);
        x.add(0, 10);
        x.add(0, 20);
        Check.fails("move of no echo to no row", NO_ECHO, () -> x.move(2, 9));
        Check.fails("move to no row", NO_ROW, () -> x.move(0, 2));
        Check.fails("move to a negative row", NO_ROW, () -> x.move(0, -1));
        Check.fails("move within a row", STATE, () -> x.move(0, 0));
        x.lock(0);
        Check.fails("move from a locked row", STATE, () -> x.move(0, 1));
        x.unlock(0);
        x.lock(1);
        Check.fails("move to a locked row", STATE, () -> x.move(0, 1));
        x.unlock(1);
        Check.equal("move(0, 1)", 0, () -> x.move(0, 1));
        Check.equal("rowOf(0)", 1, () -> x.rowOf(0));
        Check.fails("move to a full row", STATE, () -> x.move(1, 1));
        x.addPhantoms(1, 1);
        Check.equal("move to a phantom seat", 0, () -> x.move(1, 1));
        Check.equal("move back", 1, () -> x.move(0, 0));
        Check.equal("moveCount", 3, x::moveCount);
        Check.equal("rowOf(0)", 0, () -> x.rowOf(0));
    }

    private static void removing() {
        EchoCensus x = new EchoCensus();
        x.addRow(6);
        x.addRow(1);
        x.add(0, 600);
        x.add(0, 400);
        x.add(0, 3);
        x.add(1, 7);
        x.setHeir(0, 1);
        x.setHeir(2, 0);
        x.setHeir(3, 0);
        x.lock(1);
        Check.fails("remove from a locked row", STATE, () -> x.remove(3));
        Check.fails("remove of no echo", NO_ECHO, () -> x.remove(4));
        Check.equal("1 is lost above 999", 1, () -> x.remove(0));
        Check.fails("remove twice", NO_ECHO, () -> x.remove(0));
        Check.equal("the heir's loudness", 999, () -> x.loudness(1));
        Check.equal("the heir is passed on", 1, () -> x.heir(2));
        Check.equal("the heir is passed on in a locked row", 1, () -> x.heir(3));
        Check.equal("all is lost without an heir", 999, () -> x.remove(1));
        Check.equal("no heir is left", false, () -> x.hasHeir(2));
        x.setHeir(2, 3);
        Check.equal("an heir in a locked row inherits", 0, () -> x.remove(2));
        Check.equal("loudness(3)", 10, () -> x.loudness(3));
        Check.equal("removeCount", 3, x::removeCount);
        Check.equal("lostLoudness", 1000, x::lostLoudness);
        Check.equal("addedLoudness", 1010, x::addedLoudness);
        Check.equal("activeLoudness", 10, x::activeLoudness);
        Check.equal("isConsistent", true, x::isConsistent);
        x.add(0, 989);
        x.setHeir(4, 3);
        Check.equal("exactly 999", 0, () -> x.remove(4));
        Check.equal("loudness(3)", 999, () -> x.loudness(3));
    }

    private static void spreading() {
        EchoCensus x = new EchoCensus();
        x.addRow(1);
        x.addRow(2);
        x.addRow(1);
        x.addPhantoms(0, 6);
        x.addPhantoms(1, 1);
        for (int loudness : new int[] {5, 30, 30, 40}) {
            x.add(0, loudness);
        }
        x.add(1, 1);
        x.lock(0);
        Check.fails("spread of a locked row", STATE, () -> x.spread(0));
        x.unlock(0);
        Check.equal("spread(0)", 2, () -> x.spread(0));
        Check.equal("the loudest goes first", 1, () -> x.rowOf(3));
        Check.equal("then the lowest id of the loudest", 2, () -> x.rowOf(1));
        Check.equal("phantom seats elsewhere stay free", 0, () -> x.rowOf(2));
        Check.equal("still crowded", true, () -> x.isCrowded(0));
        Check.equal("moveCount", 2, x::moveCount);
        Check.equal("spread without a free real seat", 0, () -> x.spread(0));
        Check.equal("spread of a row that is not crowded", 0, () -> x.spread(1));
        Check.equal("moveCount", 2, x::moveCount);
    }

    private static void spreadingGoesRound() {
        EchoCensus x = new EchoCensus();
        x.addRow(1);
        x.addRow(1);
        x.addRow(1);
        x.addRow(1);
        x.addPhantoms(2, 3);
        x.add(2, 1);
        x.add(2, 2);
        x.add(2, 3);
        x.add(2, 4);
        x.lock(0);
        Check.equal("spread(2)", 2, () -> x.spread(2));
        Check.equal("first the next row", 3, () -> x.rowOf(3));
        Check.equal("a locked row is passed over", 1, () -> x.rowOf(2));
        x.unlock(0);
        Check.equal("spread(2)", 1, () -> x.spread(2));
        Check.equal("row 0 after the last row", 0, () -> x.rowOf(1));
        Check.equal("no more crowded", false, () -> x.isCrowded(2));
        Check.equal("moveCount", 3, x::moveCount);
    }

    private static void spreadingEnds() {
        EchoCensus x = new EchoCensus();
        x.addRow(2);
        x.addRow(12);
        x.addPhantoms(0, 2);
        x.add(0, 4);
        x.add(0, 3);
        x.add(0, 2);
        Check.equal("just one is too many", 1, () -> x.spread(0));
        Check.equal("the loudest moves", 1, () -> x.rowOf(0));
        Check.equal("spread again", 0, () -> x.spread(0));
        EchoCensus quiet = new EchoCensus();
        quiet.addRow(1);
        quiet.addRow(1);
        quiet.addPhantoms(1, 1);
        quiet.add(1, 1);
        quiet.add(1, 1);
        Check.equal("spread of echoes of loudness 1", 1, () -> quiet.spread(1));
        Check.equal("the lowest id moves", 0, () -> quiet.rowOf(0));
        EchoCensus alone = new EchoCensus();
        alone.addRow(1);
        alone.addPhantoms(0, 1);
        alone.add(0, 1);
        alone.add(0, 1);
        Check.equal("spread of the only row", 0, () -> alone.spread(0));
        Check.fails("spread of no row", NO_ROW, () -> alone.spread(1));
        Check.fails("spread of a negative row", NO_ROW, () -> alone.spread(-1));
    }

    private static void positions() {
        EchoCensus x = new EchoCensus();
        x.addRow(4);
        x.addRow(4);
        x.add(1, 11);
        x.add(0, 12);
        x.add(1, 13);
        x.move(1, 1);
        Check.equal("idInRow(1, 0)", 0, () -> x.idInRow(1, 0));
        Check.equal("idInRow(1, 1) after the move", 1, () -> x.idInRow(1, 1));
        Check.equal("idInRow(1, 2)", 2, () -> x.idInRow(1, 2));
        Check.fails("idInRow(1, 3)", NO_ECHO, () -> x.idInRow(1, 3));
        Check.fails("idInRow(1, -1)", NO_ECHO, () -> x.idInRow(1, -1));
        Check.fails("idInRow(0, 0)", NO_ECHO, () -> x.idInRow(0, 0));
        Check.fails("idInRow(2, -1)", NO_ROW, () -> x.idInRow(2, -1));
        Check.fails("idInRow(-1, 0)", NO_ROW, () -> x.idInRow(-1, 0));
        Check.equal("positionInRow(2)", 2, () -> x.positionInRow(2));
        Check.equal("positionInRow(0)", 0, () -> x.positionInRow(0));
        x.remove(0);
        Check.equal("positionInRow(2) after a removal", 1, () -> x.positionInRow(2));
        Check.equal("loudness(2)", 13, () -> x.loudness(2));
        Check.equal("loudness(1)", 12, () -> x.loudness(1));
        x.remove(2);
        Check.equal("rowLoudness(1) without the last echo", 12, () -> x.rowLoudness(1));
        Check.fails("idInRow(1, 1) without the last echo", NO_ECHO, () -> x.idInRow(1, 1));
        Check.equal("loudest without the last echo", 1, x::loudest);
    }

    private static void unknownEchoes() {
        EchoCensus x = new EchoCensus();
        x.addRow(12);
        for (int id : FAR) {
            Check.equal("isActive(" + id + ")", false, () -> x.isActive(id));
            Check.fails("rowOf(" + id + ")", NO_ECHO, () -> x.rowOf(id));
            Check.fails("loudness(" + id + ")", NO_ECHO, () -> x.loudness(id));
            Check.fails("positionInRow(" + id + ")", NO_ECHO, () -> x.positionInRow(id));
            Check.fails("move(" + id + ", 0)", NO_ECHO, () -> x.move(id, 0));
            Check.fails("remove(" + id + ")", NO_ECHO, () -> x.remove(id));
        }
        x.add(0, 1);
        x.remove(0);
        Check.fails("rowOf a removed echo", NO_ECHO, () -> x.rowOf(0));
        Check.fails("loudness of a removed echo", NO_ECHO, () -> x.loudness(0));
        Check.fails("positionInRow of a removed echo", NO_ECHO, () -> x.positionInRow(0));
    }
}
