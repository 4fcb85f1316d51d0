import java.util.NoSuchElementException;

/** Promises 8, 9 and 28 to 33: heirs. */
public final class HeirsTest {
    private static final Class<NoSuchElementException> NO_ECHO = NoSuchElementException.class;
    private static final Class<IllegalArgumentException> ARGUMENT = IllegalArgumentException.class;
    private static final Class<IllegalStateException> STATE = IllegalStateException.class;

    public static void main(String[] args) {
        settingAndClearing();
        cycles();
        longestChain();
        unknownEchoes();
        Check.finish();
    }

    private static EchoCensus censusOf(int echoes) {
        EchoCensus x = new EchoCensus();
        x.addRow(12);
        x.addRow(12);
        for (int id = 0; id < echoes; id++) {
            x.add(id % 2, 1);
        }
        return x;
    }

    private static void settingAndClearing() {
        EchoCensus x = censusOf(4);
        Check.equal("no heir at first", false, () -> x.hasHeir(0));
        Check.fails("heir(0) at first", STATE, () -> x.heir(0));
        Check.fails("clearHeir(0) at first", STATE, () -> x.clearHeir(0));
        Check.equal("the first heir", -1, () -> x.setHeir(0, 1));
        Check.equal("another heir", 1, () -> x.setHeir(0, 2));
        Check.equal("the same heir again", 2, () -> x.setHeir(0, 2));
        Check.equal("heir(0)", 2, () -> x.heir(0));
        Check.equal("hasHeir(0)", true, () -> x.hasHeir(0));
        Check.equal("setHeir(3, 2)", -1, () -> x.setHeir(3, 2));
        Check.equal("bequeathers(2)", 2, () -> x.bequeathers(2));
        Check.equal("bequeathers(1)", 0, () -> x.bequeathers(1));
        x.undo();
        Check.equal("bequeathers(2) after undo", 1, () -> x.bequeathers(2));
        x.setHeir(3, 2);
        x.remove(3);
        Check.equal("bequeathers(2) after a removal", 1, () -> x.bequeathers(2));
        x.undo();
        x.lock(0);
        x.lock(1);
        Check.equal("clearHeir(0) in a locked row", 2, () -> x.clearHeir(0));
        Check.equal("setHeir in a locked row", -1, () -> x.setHeir(0, 3));
        Check.equal("bequeathers(2)", 1, () -> x.bequeathers(2));
        Check.equal("lastHeir(0)", 2, () -> x.lastHeir(0));
        Check.equal("stepsToLastHeir(0)", 2, () -> x.stepsToLastHeir(0));
        Check.equal("lastHeir without an heir", 1, () -> x.lastHeir(1));
        Check.equal("lastHeirByDoubling without an heir", 1, () -> x.lastHeirByDoubling(1));
        Check.equal("stepsToLastHeir without an heir", 0, () -> x.stepsToLastHeir(1));
    }

    private static void cycles() {
        EchoCensus x = censusOf(4);
        Check.fails("the echo itself", ARGUMENT, () -> x.setHeir(0, 0));
        x.setHeir(0, 1);
        x.setHeir(1, 2);
        Check.fails("a cycle of two", STATE, () -> x.setHeir(1, 0));
        Check.fails("a cycle of three", STATE, () -> x.setHeir(2, 0));
        Check.equal("heir(1) is as before", 2, () -> x.heir(1));
        Check.equal("a shorter way", 1, () -> x.setHeir(0, 2));
        Check.equal("no cycle any more", 2, () -> x.setHeir(1, 0));
        Check.equal("lastHeir(1)", 2, () -> x.lastHeir(1));
        x.remove(0);
        Check.equal("the chain closes", 2, () -> x.heir(1));
        Check.fails("a cycle after the removal", STATE, () -> x.setHeir(2, 1));
    }

    private static void longestChain() {
        EchoCensus x = censusOf(24);
        for (int id = 0; id < 23; id++) {
            int giver = id;
            Check.equal("setHeir", -1, () -> x.setHeir(giver, giver + 1));
        }
        for (int id = 0; id < 24; id++) {
            int giver = id;
            Check.equal("lastHeir(" + id + ")", 23, () -> x.lastHeir(giver));
            Check.equal("lastHeirByDoubling(" + id + ")", 23, () -> x.lastHeirByDoubling(giver));
            Check.equal("stepsToLastHeir(" + id + ")", 23 - id, () -> x.stepsToLastHeir(giver));
        }
        Check.fails("the longest cycle", STATE, () -> x.setHeir(23, 0));
        Check.equal("isConsistent", true, x::isConsistent);
        x.remove(10);
        Check.equal("the chain closes", 11, () -> x.heir(9));
        Check.equal("stepsToLastHeir(0)", 22, () -> x.stepsToLastHeir(0));
        Check.equal("loudness(11)", 2, () -> x.loudness(11));
        x.clearHeir(20);
        Check.equal("lastHeir(0)", 20, () -> x.lastHeir(0));
        Check.equal("lastHeirByDoubling(0)", 20, () -> x.lastHeirByDoubling(0));
        Check.equal("lastHeirByDoubling(21)", 23, () -> x.lastHeirByDoubling(21));
    }

    private static void unknownEchoes() {
        EchoCensus x = censusOf(3);
        x.setHeir(1, 2);
        x.remove(0);
        for (int id : new int[] {0, 3, -1, Integer.MIN_VALUE, Integer.MAX_VALUE}) {
            Check.fails("setHeir(" + id + ", 1)", NO_ECHO, () -> x.setHeir(id, 1));
            Check.fails("setHeir(1, " + id + ")", NO_ECHO, () -> x.setHeir(1, id));
            Check.fails("setHeir(" + id + ", " + id + ")", NO_ECHO, () -> x.setHeir(id, id));
            Check.fails("clearHeir(" + id + ")", NO_ECHO, () -> x.clearHeir(id));
            Check.fails("hasHeir(" + id + ")", NO_ECHO, () -> x.hasHeir(id));
            Check.fails("heir(" + id + ")", NO_ECHO, () -> x.heir(id));
            Check.fails("lastHeir(" + id + ")", NO_ECHO, () -> x.lastHeir(id));
            Check.fails("lastHeirByDoubling(" + id + ")", NO_ECHO, () -> x.lastHeirByDoubling(id));
            Check.fails("stepsToLastHeir(" + id + ")", NO_ECHO, () -> x.stepsToLastHeir(id));
            Check.fails("bequeathers(" + id + ")", NO_ECHO, () -> x.bequeathers(id));
        }
    }
}
