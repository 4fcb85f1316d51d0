import java.lang.reflect.Field;
import java.lang.reflect.Method;

/**
 * Promise 51 for a census that is not consistent. No calls lead to one, so the numbers inside are bent.
 * The document leaves free how they are held: if that changes, this test has to change, too.
 */
public final class ConsistencyTest {
    /** A change of the numbers inside. */
    private interface Bend {
        void apply(Inside inside) throws ReflectiveOperationException;
    }

    public static void main(String[] args) {
        if (!isHeldAsHere()) {
            System.out.println("not looked at, as the state is held in another way");
            return;
        }
        check("nothing", true, inside -> { });
        totals();
        seats();
        heirs();
        places();
        Check.finish();
    }

    private static boolean isHeldAsHere() {
        try {
            new Inside(example()).numbers("heirIds");
            return true;
        } catch (ReflectiveOperationException e) {
            return false;
        }
    }

    /** Three rows, each with two echoes and a real seat for each, and 9 of the loudness lost. */
    private static EchoCensus example() {
        EchoCensus x = new EchoCensus();
        for (int row = 0; row < 3; row++) {
            x.addRow(2);
            x.add(row, 10);
            x.add(row, 20);
        }
        x.remove(5);
        x.add(2, 9);
        x.remove(6);
        x.add(2, 8);
        return x;
    }

    private static void check(String what, boolean consistent, Bend bend) {
        EchoCensus x = example();
        Check.equal(what + " is bent", consistent, () -> {
            bend.apply(new Inside(x));
            return x.isConsistent();
        });
    }

    private static void totals() {
        for (int difference : new int[] {-1, 1, 1000}) {
            check("the loudness added", false, inside -> inside.addTo("loudnessAdded", difference));
            check("the loudness lost", false, inside -> inside.addTo("loudnessLost", difference));
            check("a loudness", false, inside -> inside.numbers("loudnesses")[3] += difference);
        }
    }

    private static void seats() {
        for (int row = 0; row < 3; row++) {
            int bent = row;
            check("a capacity", false, inside -> inside.numbers("realSeats")[bent]--);
            check("a number of phantom seats", false, inside -> inside.numbers("phantomSeats")[bent]--);
            check("the kind of a seat", true, inside -> {
                inside.numbers("realSeats")[bent]--;
                inside.numbers("phantomSeats")[bent]++;
            });
        }
    }

    /** A cycle has no last heir, so the two ways to find one end at different echoes. */
    private static void heirs() {
        for (int length = 2; length <= 4; length++) {
            int echoes = length;
            check("a cycle of " + length + " heirs", false, inside -> {
                for (int slot = 0; slot < echoes; slot++) {
                    inside.numbers("heirIds")[slot] = (slot + 1) % echoes;
                }
            });
        }
    }

    /** An echo in a row behind the last one: the tree descends to it, counting row by row does not. */
    private static void places() {
        check("a place", false, inside -> inside.numbers("places")[5] = 8);
        check("a place in another row", true, inside -> {
            inside.numbers("realSeats")[0]++;
            inside.numbers("places")[5] = 0;
        });
    }

    /** The numbers of the present theatre. */
    private static final class Inside {
        private final Object theatre;

        Inside(EchoCensus census) throws ReflectiveOperationException {
            Object history = field(census, "history").get(census);
            Method present = history.getClass().getDeclaredMethod("present");
            present.setAccessible(true);
            theatre = present.invoke(history);
        }

        private static Field field(Object object, String name) throws ReflectiveOperationException {
            Field field = object.getClass().getDeclaredField(name);
            field.setAccessible(true);
            return field;
        }

        int[] numbers(String name) throws ReflectiveOperationException {
            return (int[]) field(theatre, name).get(theatre);
        }

        void addTo(String name, int difference) throws ReflectiveOperationException {
            Field field = field(theatre, name);
            field.setLong(theatre, field.getLong(theatre) + difference);
        }
    }
}
