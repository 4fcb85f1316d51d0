import java.util.NoSuchElementException;

/** Promises 52 to 54: the formatted line. */
public final class LineTest {
    private static final Class<IndexOutOfBoundsException> OUTSIDE = IndexOutOfBoundsException.class;

    public static void main(String[] args) {
        rows();
        echoes();
        longestRow();
        Check.finish();
    }

    /** Checks the answer of a formatting call and the line that it leaves. */
    private static void formats(EchoCensus x, String line, java.util.concurrent.Callable<?> call) {
        Check.equal("the length of " + line, line.length(), call);
        Check.equal("the line", line, () -> Check.line(x));
        Check.fails("lineChar(-1)", OUTSIDE, () -> x.lineChar(-1));
        Check.fails("lineChar behind the line", OUTSIDE, () -> x.lineChar(line.length()));
        Check.fails("lineChar far behind", OUTSIDE, () -> x.lineChar(Integer.MAX_VALUE));
        Check.fails("lineChar far before", OUTSIDE, () -> x.lineChar(Integer.MIN_VALUE));
    }

    private static void rows() {
        EchoCensus x = new EchoCensus();
        Check.fails("lineChar(0) of the empty line", OUTSIDE, () -> x.lineChar(0));
        Check.fails("formatRow of no row", OUTSIDE, () -> x.formatRow(0));
        x.addRow(12);
        x.addRow(7);
        x.addRow(5);
        formats(x, "0[0/12]", () -> x.formatRow(0));
        for (int id = 0; id < 10; id++) {
            x.add(id == 4 || id == 9 ? 2 : id < 4 ? 0 : 1, id == 4 ? 20 : id == 9 ? 999 : 1 + id);
        }
        x.addPhantoms(2, 1);
        x.lock(2);
        formats(x, "2[2/5+1]! 4:20 9:999", () -> x.formatRow(2));
        formats(x, "1[4/7] 5:6 6:7 7:8 8:9", () -> x.formatRow(1));
        x.lock(1);
        x.remove(1);
        formats(x, "1[4/7]! 5:6 6:7 7:8 8:9", () -> x.formatRow(1));
        Check.fails("formatRow(3)", OUTSIDE, () -> x.formatRow(3));
        Check.fails("formatRow(-1)", OUTSIDE, () -> x.formatRow(-1));
        Check.equal("the line stays", "1[4/7]! 5:6 6:7 7:8 8:9", () -> Check.line(x));
        x.unlock(1);
        x.undo();
        Check.equal("undo leaves the line", "1[4/7]! 5:6 6:7 7:8 8:9", () -> Check.line(x));
        formats(x, "0[3/12] 0:1 2:3 3:4", () -> x.formatRow(0));
    }

    private static void echoes() {
        EchoCensus x = new EchoCensus();
        x.addRow(8);
        x.addRow(1);
        x.addRow(8);
        for (int id = 0; id < 10; id++) {
            x.add(id == 7 ? 2 : id % 2 * 2, 15);
        }
        formats(x, "#7@2=15", () -> x.formatEcho(7));
        x.setHeir(7, 9);
        formats(x, "#7@2=15>9", () -> x.formatEcho(7));
        formats(x, "#0@0=15", () -> x.formatEcho(0));
        x.setHeir(9, 0);
        x.remove(9);
        formats(x, "#7@2=15>0", () -> x.formatEcho(7));
        formats(x, "#0@0=30", () -> x.formatEcho(0));
        for (int id : new int[] {9, 10, -1, Integer.MIN_VALUE, Integer.MAX_VALUE}) {
            Check.fails("formatEcho(" + id + ")", NoSuchElementException.class, () -> x.formatEcho(id));
        }
        Check.equal("the line stays", "#0@0=30", () -> Check.line(x));
    }

    private static void longestRow() {
        EchoCensus x = new EchoCensus();
        x.addRow(12);
        x.addPhantoms(0, 6);
        for (int id = 0; id < 100; id++) {
            x.add(0, 1);
            x.remove(id);
        }
        StringBuilder due = new StringBuilder("0[18/12+6]!");
        for (int id = 100; id < 118; id++) {
            x.add(0, 999);
            due.append(' ').append(id).append(":999");
        }
        x.lock(0);
        formats(x, due.toString(), () -> x.formatRow(0));
    }
}
