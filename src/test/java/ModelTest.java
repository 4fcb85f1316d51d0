import java.util.ArrayList;
import java.util.Arrays;
import java.util.HashMap;
import java.util.List;
import java.util.Map;
import java.util.NoSuchElementException;
import java.util.Random;
import java.util.TreeMap;
import java.util.concurrent.Callable;

/** Long runs of mixed calls, each compared with a second, plainer model of the document. */
public final class ModelTest {
    private static final int RUNS = 8000;
    private static final int MOST_CALLS = 512;

    public static void main(String[] args) {
        for (int seed = 0; seed < RUNS; seed++) {
            new ModelTest(seed).play();
        }
        Check.finish();
    }

    /** An echo of the model. */
    private static final class Echo {
        int row;
        int loudness;
        Integer heir;
    }

    /** A row of the model. */
    private static final class Row {
        int capacity;
        int phantoms;
        boolean locked;
    }

    /** Everything that changes can change. */
    private static final class State {
        List<Row> rows = new ArrayList<>();
        TreeMap<Integer, Echo> echoes = new TreeMap<>();
        Map<Character, Integer> boxes = new HashMap<>();
        int nextId;
        int moves;
        int removals;
        long added;
        long lost;

        State copy() {
            State copy = new State();
            for (Row row : rows) {
                Row twin = new Row();
                twin.capacity = row.capacity;
                twin.phantoms = row.phantoms;
                twin.locked = row.locked;
                copy.rows.add(twin);
            }
            echoes.forEach((id, echo) -> {
                Echo twin = new Echo();
                twin.row = echo.row;
                twin.loudness = echo.loudness;
                twin.heir = echo.heir;
                copy.echoes.put(id, twin);
            });
            copy.boxes.putAll(boxes);
            copy.nextId = nextId;
            copy.moves = moves;
            copy.removals = removals;
            copy.added = added;
            copy.lost = lost;
            return copy;
        }

        Row row(int number) {
            need(number >= 0 && number < rows.size(), new IndexOutOfBoundsException());
            return rows.get(number);
        }

        Echo echo(int id) {
            need(echoes.containsKey(id), new NoSuchElementException());
            return echoes.get(id);
        }

        List<Integer> idsIn(int row) {
            return echoes.keySet().stream().filter(id -> echoes.get(id).row == row).toList();
        }

        int free(int row) {
            return rows.get(row).capacity + rows.get(row).phantoms - idsIn(row).size();
        }

        List<Integer> chain(int id) {
            List<Integer> chain = new ArrayList<>();
            for (Integer next = id; next != null; next = echoes.get(next).heir) {
                chain.add(next);
            }
            return chain;
        }

        List<Integer> ranked() {
            List<Integer> ids = new ArrayList<>(echoes.keySet());
            ids.sort((a, b) -> Integer.compare(echoes.get(a).row, echoes.get(b).row));
            return ids;
        }

        int loudnessOf(int row) {
            return idsIn(row).stream().mapToInt(id -> echoes.get(id).loudness).sum();
        }
    }

    private static void need(boolean condition, RuntimeException otherwise) {
        if (!condition) {
            throw otherwise;
        }
    }

    private final int seed;
    private final Random random;
    private final EchoCensus census = new EchoCensus();
    private State state = new State();
    private final List<State> before = new ArrayList<>();
    private State saved = null;

    private ModelTest(int seed) {
        this.seed = seed;
        this.random = new Random(seed);
    }

    private void play() {
        int calls = 0;
        for (int step = 0; calls < MOST_CALLS; step++) {
            String kind = KINDS[random.nextInt(KINDS.length)];
            int a = argument();
            int b = argument();
            int c = random.nextInt(4) == 0 ? random.nextInt(1100) - 50 : 1 + random.nextInt(999);
            String what = "seed " + seed + ", step " + step + ": " + kind + " " + a + " " + b + " " + c;
            String due = Check.answer(() -> expected(kind, a, b, c));
            calls += mostCalls(kind, a, b, c, due);
            if (calls <= MOST_CALLS) {
                Check.equal(what, due, () -> actual(kind, a, b, c));
            }
        }
    }

    /** No less than the number of calls that the step makes. */
    private static int mostCalls(String kind, int a, int b, int c, String due) {
        return switch (kind) {
            case "run" -> program(a, b, c).length() + 1;
            case "rows" -> 9;
            case "echoes" -> 7;
            case "heirs", "totals" -> 6;
            case "counts" -> 8;
            case "boxes" -> 3;
            case "lines" -> due.length(); // each character of the lines is asked for
            default -> 1;
        };
    }

    /** Mostly a likely row or id, seldom a wild one. */
    private int argument() {
        switch (random.nextInt(20)) {
            case 0:
                return random.nextInt();
            case 1:
                return -1;
            case 2:
            case 3:
            case 4:
            case 5:
            case 6:
            case 7:
            case 8:
            case 9:
                return state.echoes.isEmpty() ? 0
                        : new ArrayList<>(state.echoes.keySet()).get(random.nextInt(state.echoes.size()));
            default:
                return random.nextInt(9);
        }
    }

    private static final String[] KINDS = ("addRow addPhantoms addPhantoms removePhantoms add add add add "
            + "add add add add move move move remove remove setHeir setHeir setHeir setHeir clearHeir lock "
            + "unlock unlock nameRow spread spread run undo undo save restore rows echoes heirs "
            + "counts boxes totals lines").split(" ");

    private Object actual(String kind, int a, int b, int c) {
        EchoCensus x = census;
        return switch (kind) {
            case "addRow" -> x.addRow(c % 14);
            case "addPhantoms" -> x.addPhantoms(a, c % 8);
            case "removePhantoms" -> x.removePhantoms(a, c % 8);
            case "add" -> x.add(a, c);
            case "move" -> x.move(a, b);
            case "remove" -> x.remove(a);
            case "setHeir" -> x.setHeir(a, b);
            case "clearHeir" -> x.clearHeir(a);
            case "lock" -> x.lock(a);
            case "unlock" -> x.unlock(a);
            case "nameRow" -> x.nameRow((char) ('a' + a), b);
            case "spread" -> x.spread(a);
            case "run" -> Check.run(x, program(a, b, c));
            case "undo" -> x.undo();
            case "save" -> x.save();
            case "restore" -> x.restore();
            case "rows" -> answers(x::rowCount, () -> x.capacity(a), () -> x.phantoms(a),
                    () -> x.occupancy(a), () -> x.freeSeats(a), () -> x.rowLoudness(a),
                    () -> x.isLocked(a), () -> x.isCrowded(a), () -> x.idInRow(a, b));
            case "echoes" -> answers(x::echoCount, () -> x.isActive(a), () -> x.rowOf(a),
                    () -> x.loudness(a), () -> x.positionInRow(a), () -> x.rank(a), x::loudest);
            case "heirs" -> answers(() -> x.hasHeir(a), () -> x.heir(a), () -> x.lastHeir(a),
                    () -> x.lastHeirByDoubling(a), () -> x.stepsToLastHeir(a), () -> x.bequeathers(a));
            case "counts" -> answers(() -> x.countInRows(a, b), () -> x.countInRowsByTree(a, b),
                    () -> x.idByRank(a), () -> x.idByRankByTree(a), x::quietestRow,
                    x::meanOccupancy, x::realShare, x::isConsistent);
            case "boxes" -> answers(() -> x.isNamed((char) ('a' + a)), () -> x.namedRow((char) ('a' + a)),
                    () -> x.boxCount(b));
            case "totals" -> answers(x::moveCount, x::removeCount, x::addedLoudness, x::lostLoudness,
                    x::activeLoudness, x::undoableCount);
            default -> answers(() -> x.formatRow(a), () -> Check.line(x), () -> x.formatEcho(b),
                    () -> Check.line(x));
        };
    }

    private static List<String> answers(Callable<?>... calls) {
        return Arrays.stream(calls).map(Check::answer).toList();
    }

    private static String program(int a, int b, int c) {
        String second = "box " + (char) ('a' + Math.floorMod(a, 8)) + " " + Math.floorMod(b, 9);
        return "echo " + Math.floorMod(a, 9) + " " + Math.floorMod(c, 1000) + ";" + second + ";move "
                + Math.floorMod(a, 1000) + " " + Math.floorMod(b, 9) + ";spread " + Math.floorMod(b, 9);
    }

    private Object expected(String kind, int a, int b, int c) {
        State s = state;
        return switch (kind) {
            case "run" -> change(() -> expectedRun(a, b, c));
            case "undo" -> {
                need(!before.isEmpty(), new IllegalStateException());
                state = before.remove(before.size() - 1);
                yield before.size();
            }
            case "save" -> {
                saved = s.copy();
                yield s.echoes.size();
            }
            case "restore" -> {
                need(saved != null, new IllegalStateException());
                state = saved.copy();
                before.clear();
                yield state.echoes.size();
            }
            case "rows" -> answers(() -> s.rows.size(), () -> s.row(a).capacity, () -> s.row(a).phantoms,
                    () -> s.row(a) == null ? 0 : s.idsIn(a).size(), () -> s.row(a) == null ? 0 : s.free(a),
                    () -> s.row(a) == null ? 0 : s.loudnessOf(a), () -> s.row(a).locked,
                    () -> s.row(a).capacity < s.idsIn(a).size(), () -> expectedIdInRow(a, b));
            case "echoes" -> answers(() -> s.echoes.size(), () -> s.echoes.containsKey(a),
                    () -> s.echo(a).row, () -> s.echo(a).loudness,
                    () -> s.idsIn(s.echo(a).row).indexOf(a),
                    () -> s.echo(a) == null ? 0 : s.ranked().indexOf(a),
                    () -> loudestOf(new ArrayList<>(s.echoes.keySet())));
            case "heirs" -> answers(() -> s.echo(a).heir != null, () -> {
                need(s.echo(a).heir != null, new IllegalStateException());
                return s.echo(a).heir;
            }, () -> last(a), () -> last(a), () -> s.echo(a) == null ? 0 : s.chain(a).size() - 1,
                    () -> s.echo(a) == null ? 0 : s.echoes.values().stream()
                            .filter(echo -> Integer.valueOf(a).equals(echo.heir)).count());
            case "counts" -> answers(() -> expectedCount(a, b), () -> expectedCount(a, b),
                    () -> expectedRanked(a), () -> expectedRanked(a), this::expectedQuietest,
                    () -> {
                        need(!s.rows.isEmpty(), new ArithmeticException());
                        return (double) s.echoes.size() / s.rows.size();
                    }, () -> {
                        need(!s.rows.isEmpty(), new ArithmeticException());
                        return (float) s.echoes.size() / s.rows.stream().mapToInt(row -> row.capacity).sum();
                    }, () -> true);
            case "boxes" -> answers(() -> expectedBox((char) ('a' + a)) != null, () -> {
                need(expectedBox((char) ('a' + a)) != null, new NoSuchElementException());
                return expectedBox((char) ('a' + a));
            }, () -> s.row(b) == null ? 0 : s.boxes.values().stream().filter(row -> row == b).count());
            case "totals" -> answers(() -> s.moves, () -> s.removals, () -> s.added, () -> s.lost,
                    () -> s.added - s.lost, before::size);
            case "lines" -> expectedLines(a, b);
            default -> change(() -> apply(kind, a, b, c));
        };
    }

    /** Applies a change to a copy, which counts only if the change returns normally. */
    private Object change(java.util.function.Supplier<Object> body) {
        State old = state;
        state = old.copy();
        try {
            Object answer = body.get();
            if (answer.equals(IllegalStateException.class.getName())) {
                state = old;
                return answer;
            }
            before.add(old);
            if (before.size() > 8) {
                before.remove(0);
            }
            return answer;
        } catch (RuntimeException e) {
            state = old;
            throw e;
        }
    }

    private Object expectedRun(int a, int b, int c) {
        try {
            apply("add", Math.floorMod(a, 9), 0, Math.floorMod(c, 1000));
            apply("nameRow", Math.floorMod(a, 8), Math.floorMod(b, 9), 0);
            apply("move", Math.floorMod(a, 1000), Math.floorMod(b, 9), 0);
            apply("spread", Math.floorMod(b, 9), 0, 0);
            return "4";
        } catch (RuntimeException e) {
            return IllegalStateException.class.getName();
        }
    }

    private Object apply(String kind, int a, int b, int c) {
        State s = state;
        switch (kind) {
            case "addRow": {
                need(c % 14 >= 1 && c % 14 <= 12, new IllegalArgumentException());
                need(s.rows.size() < 8, new IllegalStateException());
                Row row = new Row();
                row.capacity = c % 14;
                s.rows.add(row);
                return s.rows.size() - 1;
            }
            case "addPhantoms": {
                Row row = s.row(a);
                need(c % 8 >= 1 && c % 8 <= 6, new IllegalArgumentException());
                need(!row.locked && row.phantoms + c % 8 <= 6, new IllegalStateException());
                return row.phantoms += c % 8;
            }
            case "removePhantoms": {
                Row row = s.row(a);
                need(c % 8 >= 1 && c % 8 <= 6, new IllegalArgumentException());
                need(!row.locked && row.phantoms >= c % 8, new IllegalStateException());
                row.phantoms -= c % 8;
                need(s.free(a) >= 0, new IllegalStateException());
                return row.phantoms;
            }
            case "add": {
                Row row = s.row(a);
                need(c >= 1 && c <= 999, new IllegalArgumentException());
                need(!row.locked && s.free(a) > 0 && s.echoes.size() < 24, new IllegalStateException());
                Echo echo = new Echo();
                echo.row = a;
                echo.loudness = c;
                s.echoes.put(s.nextId, echo);
                s.added += c;
                return s.nextId++;
            }
            case "move": {
                Echo echo = s.echo(a);
                Row row = s.row(b);
                need(echo.row != b && !row.locked && !s.row(echo.row).locked && s.free(b) > 0,
                        new IllegalStateException());
                int from = echo.row;
                echo.row = b;
                s.moves++;
                return from;
            }
            case "remove": {
                Echo echo = s.echo(a);
                need(!s.row(echo.row).locked, new IllegalStateException());
                int lost = echo.loudness;
                if (echo.heir != null) {
                    Echo heir = s.echo(echo.heir);
                    int sum = heir.loudness + echo.loudness;
                    lost = Math.max(0, sum - 999);
                    heir.loudness = sum - lost;
                }
                s.echoes.remove(a);
                for (Echo other : s.echoes.values()) {
                    if (Integer.valueOf(a).equals(other.heir)) {
                        other.heir = echo.heir;
                    }
                }
                s.removals++;
                s.lost += lost;
                return lost;
            }
            case "setHeir": {
                Echo echo = s.echo(a);
                s.echo(b);
                need(a != b, new IllegalArgumentException());
                need(!s.chain(b).contains(a), new IllegalStateException());
                Integer old = echo.heir;
                echo.heir = b;
                return old == null ? -1 : old;
            }
            case "clearHeir": {
                Echo echo = s.echo(a);
                need(echo.heir != null, new IllegalStateException());
                Integer old = echo.heir;
                echo.heir = null;
                return old;
            }
            case "lock":
            case "unlock": {
                Row row = s.row(a);
                need(row.locked != kind.equals("lock"), new IllegalStateException());
                row.locked = !row.locked;
                return s.rows.stream().filter(other -> other.locked).count();
            }
            case "nameRow": {
                char box = (char) ('a' + a);
                expectedBox(box);
                s.row(b);
                Integer old = s.boxes.put(box, b);
                return old == null ? -1 : old;
            }
            default:
                need(!s.row(a).locked, new IllegalStateException());
                return spread(a);
        }
    }

    private int spread(int row) {
        int moved = 0;
        while (state.idsIn(row).size() > state.rows.get(row).capacity) {
            int id = loudestOf(state.idsIn(row));
            int target = -1;
            int count = state.rows.size();
            for (int step = count; step >= 1; step--) {
                int other = (row + step) % count;
                Row tried = state.rows.get(other);
                if (!tried.locked && state.idsIn(other).size() < tried.capacity) {
                    target = other;
                }
            }
            if (target < 0) {
                return moved;
            }
            state.echoes.get(id).row = target;
            state.moves++;
            moved++;
        }
        return moved;
    }

    private int loudestOf(List<Integer> ids) {
        need(!ids.isEmpty(), new NoSuchElementException());
        int most = ids.stream().mapToInt(id -> state.echoes.get(id).loudness).max().getAsInt();
        return ids.stream().filter(id -> state.echoes.get(id).loudness == most).findFirst().get();
    }

    private int last(int id) {
        state.echo(id);
        List<Integer> chain = state.chain(id);
        return chain.get(chain.size() - 1);
    }

    private int expectedIdInRow(int row, int position) {
        state.row(row);
        List<Integer> ids = state.idsIn(row);
        need(position >= 0 && position < ids.size(), new NoSuchElementException());
        return ids.get(position);
    }

    private long expectedCount(int first, int last) {
        state.row(first);
        state.row(last);
        need(first <= last, new IllegalArgumentException());
        return state.echoes.values().stream().filter(e -> e.row >= first && e.row <= last).count();
    }

    private int expectedRanked(int rank) {
        need(rank >= 0 && rank < state.echoes.size(), new NoSuchElementException());
        return state.ranked().get(rank);
    }

    private int expectedQuietest() {
        need(!state.rows.isEmpty(), new NoSuchElementException());
        int quietest = 0;
        for (int row = 1; row < state.rows.size(); row++) {
            if (state.loudnessOf(row) < state.loudnessOf(quietest)) {
                quietest = row;
            }
        }
        return quietest;
    }

    private Integer expectedBox(char box) {
        need("abcdefgh".indexOf(box) >= 0, new IllegalArgumentException());
        return state.boxes.get(box);
    }

    private String lastLine = "";

    private List<String> expectedLines(int a, int b) {
        List<String> due = new ArrayList<>();
        due.add(Check.answer(() -> {
            Row row = state.row(a);
            StringBuilder text = new StringBuilder();
            text.append(a + "[" + state.idsIn(a).size() + "/" + row.capacity);
            text.append((row.phantoms > 0 ? "+" + row.phantoms : "") + "]" + (row.locked ? "!" : ""));
            state.idsIn(a).forEach(id -> text.append(" " + id + ":" + state.echoes.get(id).loudness));
            lastLine = text.toString();
            return lastLine.length();
        }));
        due.add(lastLine);
        due.add(Check.answer(() -> {
            Echo echo = state.echo(b);
            lastLine = "#" + b + "@" + echo.row + "=" + echo.loudness
                    + (echo.heir == null ? "" : ">" + echo.heir);
            return lastLine.length();
        }));
        due.add(lastLine);
        return due;
    }
}
