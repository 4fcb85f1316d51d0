import java.util.NoSuchElementException;

/** Promises 12 and 41 to 43: boxes. */
public final class BoxesTest {
    public static void main(String[] args) {
        EchoCensus x = new EchoCensus();
        Check.fails("a bad name and no row", IllegalArgumentException.class, () -> x.nameRow('i', 0));
        Check.fails("no row", IndexOutOfBoundsException.class, () -> x.nameRow('a', 0));
        Check.fails("boxCount of no row", IndexOutOfBoundsException.class, () -> x.boxCount(0));
        Check.fails("boxCount(-1)", IndexOutOfBoundsException.class, () -> x.boxCount(-1));
        x.addRow(1);
        x.addRow(1);
        for (char name : new char[] {'a' - 1, 'i', 'A', 0, ' ', '~', 0xFFFF}) {
            Check.fails("nameRow", IllegalArgumentException.class, () -> x.nameRow(name, 0));
            Check.fails("isNamed", IllegalArgumentException.class, () -> x.isNamed(name));
            Check.fails("namedRow", IllegalArgumentException.class, () -> x.namedRow(name));
        }
        for (char box = 'a'; box <= 'h'; box++) {
            char name = box;
            Check.equal("isNamed at first", false, () -> x.isNamed(name));
            Check.fails("namedRow at first", NoSuchElementException.class, () -> x.namedRow(name));
            Check.equal("boxCount(0)", box - 'a', () -> x.boxCount(0));
            Check.equal("nameRow", -1, () -> x.nameRow(name, 0));
            Check.equal("isNamed", true, () -> x.isNamed(name));
            Check.equal("namedRow", 0, () -> x.namedRow(name));
        }
        x.lock(1);
        Check.equal("nameRow to a locked row", 0, () -> x.nameRow('c', 1));
        Check.equal("nameRow again", 1, () -> x.nameRow('c', 1));
        Check.equal("namedRow('c')", 1, () -> x.namedRow('c'));
        Check.equal("boxCount(0)", 7, () -> x.boxCount(0));
        Check.equal("boxCount(1)", 1, () -> x.boxCount(1));
        Check.fails("nameRow to no row", IndexOutOfBoundsException.class, () -> x.nameRow('c', 2));
        Check.fails("boxCount(2)", IndexOutOfBoundsException.class, () -> x.boxCount(2));
        Check.finish();
    }
}
