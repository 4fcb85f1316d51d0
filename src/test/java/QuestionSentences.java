import java.util.Arrays;
import java.util.function.IntFunction;

/** Tests of the sentences of the promises 14 to 50: questions that change nothing. */
final class QuestionSentences extends Sentences {
    private QuestionSentences() {
    }

    static void test() {
        rows();
        seats();
        locksAndCrowds();
        positions();
        echoes();
        heirs();
        lastHeirs();
        counts();
        ranks();
        loudestAndQuietest();
        boxes();
        counters();
        sums();
        shares();
    }

    private static void refusesNoRows(IntFunction<Call> call) {
        for (int row : noRows(3)) {
            refuses(NO_ROW, Sentences::theatre, call.apply(row));
        }
        refuses(NO_ROW, EchoCensus::new, call.apply(0));
        fails(NO_ROW, () -> call.apply(8).on(fullHouse()));
    }

    private static void refusesNoEchoes(IntFunction<Call> call) {
        for (int id : noIds(6)) {
            refuses(NO_ELEMENT, Sentences::theatre, call.apply(id));
        }
        refuses(NO_ELEMENT, Sentences::theatre, call.apply(5)); // was removed
        refuses(NO_ELEMENT, () -> rows(3), call.apply(0));
        fails(NO_ELEMENT, () -> call.apply(24).on(chain(24)));
    }

    private static void rows() {
        says("Promise 14", "Returns the number of rows.", () -> {
            EchoCensus x = new EchoCensus();
            for (int row : upTo(8)) {
                is(row, x::rowCount);
                x.addRow(1 + row);
            }
            is(8, x::rowCount);
            fails(STATE, () -> x.addRow(1));
            is(8, x::rowCount);
            x.undo();
            is(7, x::rowCount);
        });
        says("Promise 15", "Returns the number of real seats of a row.", () -> {
            EchoCensus x = rows(12, 1, 11, 2, 10, 3, 9, 4);
            x.addPhantoms(1, 6);
            addAll(x, 1, 1, 2, 3);
            x.lock(2);
            int[] due = {12, 1, 11, 2, 10, 3, 9, 4};
            for (int row : upTo(8)) {
                is(due[row], () -> x.capacity(row));
            }
        });
        says("Promise 15", "if there is no such row", () -> refusesNoRows(row -> x -> x.capacity(row)));
    }

    private static void seats() {
        says("Promise 16", "Returns the number of phantom seats of a row.", () -> {
            EchoCensus x = rows(3, 3, 3);
            x.addPhantoms(0, 6);
            x.addPhantoms(2, 1);
            addAll(x, 0, 1, 1, 1, 1);
            x.lock(0);
            is(6, () -> x.phantoms(0)); // taken or not
            is(0, () -> x.phantoms(1));
            is(1, () -> x.phantoms(2));
        });
        says("Promise 16", "if there is no such row", () -> refusesNoRows(row -> x -> x.phantoms(row)));
        says("Promise 17", "Returns the number of echoes in a row.", () -> {
            EchoCensus x = fullHouse();
            for (int row : upTo(8)) {
                is(OCCUPANCIES[row], () -> x.occupancy(row));
            }
            EchoCensus y = rows(12);
            y.addPhantoms(0, 6);
            for (int id : upTo(18)) {
                is(id, () -> y.occupancy(0));
                y.add(0, 1);
            }
            is(18, () -> y.occupancy(0));
        });
        says("Promise 17", "if there is no such row", () -> refusesNoRows(row -> x -> x.occupancy(row)));
        says("Promise 18", "together, minus the number of its echoes", () -> {
            EchoCensus x = rows(2, 1);
            is(2, () -> x.freeSeats(0));
            x.addPhantoms(0, 6);
            for (int id : upTo(8)) {
                is(8 - id, () -> x.freeSeats(0));
                x.add(0, 1);
            }
            is(0, () -> x.freeSeats(0));
            is(1, () -> x.freeSeats(1));
            EchoCensus most = rows(12);
            most.addPhantoms(0, 6);
            is(18, () -> most.freeSeats(0));
        });
        says("Promise 18", "A locked row is treated like any other.", () -> {
            EchoCensus x = theatre();
            is(0, () -> x.freeSeats(2));
            x.lock(0);
            x.lock(1);
            is(2, () -> x.freeSeats(0));
            is(2, () -> x.freeSeats(1));
        });
        says("Promise 18", "if there is no such row", () -> refusesNoRows(row -> x -> x.freeSeats(row)));
    }

    private static void locksAndCrowds() {
        says("Promise 19", "Returns the sum of the loudness of the echoes in a row.", () -> {
            EchoCensus x = rows(12, 1);
            x.addPhantoms(0, 6);
            is(0, () -> x.rowLoudness(0));
            for (int id : upTo(18)) {
                x.add(0, 999);
                is(999 * (id + 1), () -> x.rowLoudness(0));
            }
            is(0, () -> x.rowLoudness(1));
            x.move(0, 1);
            is(999 * 17, () -> x.rowLoudness(0));
            is(999, () -> x.rowLoudness(1));
            x.remove(0);
            is(0, () -> x.rowLoudness(1));
        });
        says("Promise 19", "if there is no such row", () -> refusesNoRows(row -> x -> x.rowLoudness(row)));
        says("Promise 20", "Returns whether a row is locked.", () -> {
            EchoCensus x = theatre();
            is(false, () -> x.isLocked(0));
            is(true, () -> x.isLocked(2));
            x.unlock(2);
            is(false, () -> x.isLocked(2));
        });
        says("Promise 20", "if there is no such row", () -> refusesNoRows(row -> x -> x.isLocked(row)));
        says("Promise 21", "Returns whether a row is crowded.", () -> {
            EchoCensus x = rows(3, 3);
            x.addPhantoms(0, 1);
            addAll(x, 0, 1, 1, 1);
            is(false, () -> x.isCrowded(0)); // each real seat is taken
            x.add(0, 1);
            is(true, () -> x.isCrowded(0));
            is(false, () -> x.isCrowded(1));
            x.lock(0);
            is(true, () -> x.isCrowded(0));
            x.unlock(0);
            x.spread(0);
            is(false, () -> x.isCrowded(0));
        });
        says("Promise 21", "if there is no such row", () -> refusesNoRows(row -> x -> x.isCrowded(row)));
    }

    private static void positions() {
        says("Promise 22", "Returns the id of an echo by its position in its row.", () -> {
            EchoCensus x = theatre();
            is(0, () -> x.idInRow(0, 0));
            is(1, () -> x.idInRow(0, 1));
            is(2, () -> x.idInRow(0, 2));
            is(3, () -> x.idInRow(1, 0));
            is(4, () -> x.idInRow(2, 0));
            x.remove(1);
            is(2, () -> x.idInRow(0, 1));
        });
        says("Promise 22", "The echoes of a row are ordered by id.", () -> {
            EchoCensus x = rows(5, 5);
            addAll(x, 0, 9, 8, 7);
            addAll(x, 1, 6, 5);
            x.move(2, 1);
            x.move(0, 1);
            int[] due = {0, 2, 3, 4};
            for (int position : upTo(4)) {
                is(due[position], () -> x.idInRow(1, position));
            }
            is(1, () -> x.idInRow(0, 0));
        });
        says("Promise 22", "the position, starting at 0", () -> {
            EchoCensus x = rows(1);
            x.add(0, 1);
            is(0, () -> x.idInRow(0, 0));
            fails(NO_ELEMENT, () -> x.idInRow(0, 1));
            EchoCensus most = rows(12);
            most.addPhantoms(0, 6);
            for (int id : upTo(18)) {
                most.add(0, 1);
                is(id, () -> most.idInRow(0, id));
            }
        });
        says("Promise 22", "if there is no such row", () -> {
            refusesNoRows(row -> x -> x.idInRow(row, 0));
            refusesNoRows(row -> x -> x.idInRow(row, 99));
        });
        says("Promise 22", "if the row has no such position", () -> {
            for (int wrong : new int[] {-1, 3, 4, 24, 259, Integer.MIN_VALUE, Integer.MAX_VALUE}) {
                refuses(NO_ELEMENT, Sentences::theatre, x -> x.idInRow(0, wrong));
            }
            refuses(NO_ELEMENT, Sentences::theatre, x -> x.idInRow(1, 1));
            refuses(NO_ELEMENT, () -> rows(12), x -> x.idInRow(0, 0));
        });
        says("Promise 27", "the position of an echo in its row, where the echoes are ordered by id", () -> {
            EchoCensus x = rows(5, 5);
            addAll(x, 0, 9, 8, 7);
            addAll(x, 1, 6, 5);
            x.move(2, 1);
            x.move(0, 1);
            int[] due = {0, 0, 1, 2, 3};
            for (int id : upTo(5)) {
                is(due[id], () -> x.positionInRow(id));
            }
            x.remove(2);
            is(1, () -> x.positionInRow(3));
        });
        says("Promise 27", "Returns the position, starting at 0.", () -> {
            EchoCensus x = rows(12, 1);
            x.addPhantoms(0, 6);
            for (int id : upTo(18)) {
                x.add(0, 1);
                is(id, () -> x.positionInRow(id));
            }
            x.add(1, 1);
            is(0, () -> x.positionInRow(18));
        });
        says("Promise 27", "if no active echo has this id", () -> refusesNoEchoes(id -> x -> x.positionInRow(id)));
    }

    private static void echoes() {
        says("Promise 23", "Returns the number of active echoes.", () -> {
            EchoCensus x = rows(12, 12);
            for (int id : upTo(24)) {
                is(id, x::echoCount);
                x.add(id % 2, 1);
            }
            is(24, x::echoCount);
            fails(STATE, () -> x.add(0, 1));
            for (int id : upTo(24)) {
                is(24 - id, x::echoCount);
                x.remove(id);
            }
            is(0, x::echoCount);
        });
        says("Promise 24", "Returns whether an echo is active.", () -> {
            EchoCensus x = chain(24);
            x.remove(3);
            x.remove(23);
            for (int id : upTo(24)) {
                is(id != 3 && id != 23, () -> x.isActive(id));
            }
        });
        says("Promise 24", "any id", () -> {
            for (int id : noIds(6)) {
                is(false, () -> theatre().isActive(id));
            }
            is(false, () -> theatre().isActive(5));
            is(true, () -> theatre().isActive(4));
            is(false, () -> new EchoCensus().isActive(0));
            is(false, () -> rows(1).isActive(0));
            EchoCensus x = rows(1);
            for (int id : upTo(100)) {
                x.add(0, 1);
                is(true, () -> x.isActive(id));
                x.remove(id);
                is(false, () -> x.isActive(id));
            }
        });
        says("Promise 25", "Returns the row of an echo.", () -> {
            EchoCensus x = theatre();
            is(0, () -> x.rowOf(2));
            is(1, () -> x.rowOf(3));
            is(2, () -> x.rowOf(4));
            x.spread(0);
            is(1, () -> x.rowOf(2));
            x.move(2, 0);
            is(0, () -> x.rowOf(2));
        });
        says("Promise 25", "if no active echo has this id", () -> refusesNoEchoes(id -> x -> x.rowOf(id)));
        says("Promise 26", "Returns the loudness of an echo.", () -> {
            EchoCensus x = rows(4);
            addAll(x, 0, 1, 999, 500, 2);
            is(1, () -> x.loudness(0));
            is(999, () -> x.loudness(1));
            is(500, () -> x.loudness(2));
            x.setHeir(0, 2);
            x.remove(0);
            is(501, () -> x.loudness(2));
            is(2, () -> x.loudness(3));
        });
        says("Promise 26", "if no active echo has this id", () -> refusesNoEchoes(id -> x -> x.loudness(id)));
    }

    private static void heirs() {
        says("Promise 28", "Returns whether an echo has an heir.", () -> {
            EchoCensus x = chain(3);
            is(true, () -> x.hasHeir(0));
            is(true, () -> x.hasHeir(1));
            is(false, () -> x.hasHeir(2)); // is an heir, but has none
            x.remove(2);
            is(false, () -> x.hasHeir(1));
            EchoCensus y = chain(2);
            y.clearHeir(0);
            y.setHeir(1, 0);
            is(true, () -> y.hasHeir(1)); // the heir has id 0
        });
        says("Promise 28", "if no active echo has this id", () -> refusesNoEchoes(id -> x -> x.hasHeir(id)));
        says("Promise 29", "Returns the heir of an echo.", () -> {
            EchoCensus x = chain(24);
            for (int id : upTo(23)) {
                is(id + 1, () -> x.heir(id));
            }
            x.clearHeir(0);
            x.setHeir(23, 0);
            is(0, () -> x.heir(23));
        });
        says("Promise 29", "if no active echo has this id", () -> refusesNoEchoes(id -> x -> x.heir(id)));
        says("Promise 29", "if the echo has no heir", () -> {
            refuses(STATE, Sentences::theatre, x -> x.heir(1));
            refuses(STATE, Sentences::theatre, x -> x.heir(2));
            EchoCensus x = chain(3);
            x.clearHeir(0);
            fails(STATE, () -> x.heir(0));
            x.remove(2);
            fails(STATE, () -> x.heir(1));
        });
        says("Promise 33", "Returns the number of echoes whose heir is this echo.", () -> {
            EchoCensus x = rows(12, 12);
            for (int id : upTo(24)) {
                x.add(id % 2, 1);
                is(0, () -> x.bequeathers(id));
            }
            for (int id : upTo(23)) {
                x.setHeir(1 + id, 0);
                is(id + 1, () -> x.bequeathers(0));
            }
            x.setHeir(5, 6); // the heir of an heir does not count
            is(22, () -> x.bequeathers(0));
            is(1, () -> x.bequeathers(6));
            x.remove(6);
            is(22, () -> x.bequeathers(0));
            is(0, () -> x.bequeathers(5));
        });
        says("Promise 33", "if no active echo has this id", () -> refusesNoEchoes(id -> x -> x.bequeathers(id)));
    }

    private static void lastHeirs() {
        says("Promise 30", "Returns the last heir of an echo", () -> {
            for (int length = 1; length <= 24; length++) {
                int last = length - 1;
                EchoCensus x = chain(length);
                for (int id : upTo(length)) {
                    is(last, () -> x.lastHeir(id));
                }
            }
            EchoCensus x = theatre();
            is(1, () -> x.lastHeir(3));
            is(2, () -> x.lastHeir(2));
        });
        says("Promise 30", "if no active echo has this id", () -> refusesNoEchoes(id -> x -> x.lastHeir(id)));
        says("Promise 31", "Returns the same id as lastHeir", () -> {
            for (int length = 1; length <= 24; length++) {
                int last = length - 1;
                EchoCensus x = chain(length);
                for (int id : upTo(length)) {
                    is(last, () -> x.lastHeirByDoubling(id)); // 0 to 23 steps
                }
            }
            EchoCensus x = chain(24);
            is(23, () -> x.lastHeirByDoubling(0));
            x.remove(22);
            is(23, () -> x.lastHeirByDoubling(0));
            x.clearHeir(16);
            is(16, () -> x.lastHeirByDoubling(0));
            x.undo();
            is(23, () -> x.lastHeirByDoubling(0));
        });
        says("Promise 31", "if no active echo has this id",
                () -> refusesNoEchoes(id -> x -> x.lastHeirByDoubling(id)));
        says("Promise 32", "Returns the number of steps from an echo to its last heir.", () -> {
            EchoCensus x = chain(24);
            for (int id : upTo(24)) {
                is(23 - id, () -> x.stepsToLastHeir(id));
            }
            x.remove(12);
            is(22, () -> x.stepsToLastHeir(0));
            is(10, () -> x.stepsToLastHeir(13));
        });
        says("Promise 32", "0 without an heir", () -> {
            EchoCensus x = theatre();
            is(0, () -> x.stepsToLastHeir(1));
            is(0, () -> x.stepsToLastHeir(4));
            is(1, () -> x.stepsToLastHeir(0));
            x.clearHeir(0);
            is(0, () -> x.stepsToLastHeir(0));
        });
        says("Promise 32", "if no active echo has this id",
                () -> refusesNoEchoes(id -> x -> x.stepsToLastHeir(id)));
    }

    private static void counts() {
        says("Promise 34", "Returns the number of echoes in a range of rows, counted row by row.",
                () -> countsRanges((x, first, last) -> x.countInRows(first, last)));
        says("Promise 34", "if there is no such row, for either",
                () -> refusesRanges((x, first, last) -> x.countInRows(first, last)));
        says("Promise 34", "if the first row is greater than the last row",
                () -> refusesReversed((x, first, last) -> x.countInRows(first, last)));
        says("Promise 35", "Returns the same number as countInRows",
                () -> countsRanges((x, first, last) -> x.countInRowsByTree(first, last)));
        says("Promise 35", "if there is no such row, for either",
                () -> refusesRanges((x, first, last) -> x.countInRowsByTree(first, last)));
        says("Promise 35", "if the first row is greater than the last row",
                () -> refusesReversed((x, first, last) -> x.countInRowsByTree(first, last)));
    }

    /** One of the two ways to count. */
    private interface Count {
        int in(EchoCensus census, int first, int last);
    }

    private static void countsRanges(Count count) {
        EchoCensus x = fullHouse();
        for (int first : upTo(8)) {
            int sum = 0;
            for (int last = first; last < 8; last++) {
                int end = last;
                sum += OCCUPANCIES[last];
                is(sum, () -> count.in(x, first, end));
            }
        }
        EchoCensus y = with18And6();
        is(18, () -> count.in(y, 0, 0));
        is(6, () -> count.in(y, 1, 1));
        is(24, () -> count.in(y, 0, 1));
        y.move(0, 1);
        is(17, () -> count.in(y, 0, 0));
        is(7, () -> count.in(y, 1, 1));
        y.remove(0);
        is(6, () -> count.in(y, 1, 1));
        is(0, () -> count.in(rows(1), 0, 0));
        is(0, () -> count.in(rows(1, 1, 1, 1, 1, 1, 1, 1), 0, 7));
    }

    private static EchoCensus with18And6() {
        EchoCensus x = rows(12, 12);
        x.addPhantoms(0, 6);
        for (int id = 0; id < 24; id++) {
            x.add(id / 18, 1);
        }
        return x;
    }

    private static void refusesRanges(Count count) {
        for (int row : noRows(3)) {
            for (int other : upTo(3)) {
                refuses(NO_ROW, Sentences::theatre, x -> count.in(x, row, other));
                refuses(NO_ROW, Sentences::theatre, x -> count.in(x, other, row));
            }
            refuses(NO_ROW, Sentences::theatre, x -> count.in(x, row, row));
        }
        refuses(NO_ROW, EchoCensus::new, x -> count.in(x, 0, 0));
        refuses(NO_ROW, Sentences::fullHouse, x -> count.in(x, 0, 8));
        refuses(NO_ROW, Sentences::fullHouse, x -> count.in(x, 8, 8));
    }

    private static void refusesReversed(Count count) {
        for (int first : upTo(8)) {
            for (int last : upTo(first)) {
                refuses(ARGUMENT, Sentences::fullHouse, x -> count.in(x, first, last));
            }
        }
    }

    private static void ranks() {
        says("Promise 36", "Returns the echo with a rank, counted row by row.",
                () -> findsRanks((x, rank) -> x.idByRank(rank)));
        says("Promise 36", "the rank, starting at 0", () -> startsAt0((x, rank) -> x.idByRank(rank)));
        says("Promise 36", "if there is no such rank", () -> refusesRanks((x, rank) -> x.idByRank(rank)));
        says("Promise 37", "Returns the same id as idByRank",
                () -> findsRanks((x, rank) -> x.idByRankByTree(rank)));
        says("Promise 37", "the rank, starting at 0", () -> startsAt0((x, rank) -> x.idByRankByTree(rank)));
        says("Promise 37", "if there is no such rank", () -> refusesRanks((x, rank) -> x.idByRankByTree(rank)));
        says("Promise 38", "Returns the rank of an echo.", () -> {
            EchoCensus x = fullHouse();
            for (int rank : upTo(15)) {
                is(rank, () -> x.rank(BY_RANK[rank]));
            }
            x.move(0, 1);
            is(2, () -> x.rank(0));
            is(0, () -> x.rank(13));
            is(14, () -> x.rank(4));
            EchoCensus y = with18And6();
            for (int id : upTo(24)) {
                is(id, () -> y.rank(id));
            }
        });
        says("Promise 38", "if no active echo has this id", () -> refusesNoEchoes(id -> x -> x.rank(id)));
    }

    /** The ids of fullHouse() by their ranks. */
    private static final int[] BY_RANK = {13, 14, 10, 11, 12, 9, 5, 6, 7, 8, 0, 1, 2, 3, 4};

    /** One of the two ways to find an echo by its rank. */
    private interface Find {
        int by(EchoCensus census, int rank);
    }

    private static void findsRanks(Find find) {
        EchoCensus x = fullHouse();
        for (int rank : upTo(15)) {
            is(BY_RANK[rank], () -> find.by(x, rank));
        }
        x.move(0, 1);
        is(0, () -> find.by(x, 2));
        is(10, () -> find.by(x, 3));
        is(4, () -> find.by(x, 14));
        x.remove(13);
        is(14, () -> find.by(x, 0));
        EchoCensus y = with18And6();
        for (int rank : upTo(24)) {
            is(rank, () -> find.by(y, rank));
        }
        for (int row : upTo(8)) {
            EchoCensus z = rows(1, 1, 1, 1, 1, 1, 1, 1);
            z.add(row, 1);
            is(0, () -> find.by(z, 0));
            z.add(7 - row, 1);
            is(row < 4 ? 0 : 1, () -> find.by(z, 0));
            is(row < 4 ? 1 : 0, () -> find.by(z, 1));
        }
    }

    private static void startsAt0(Find find) {
        EchoCensus x = rows(1, 1);
        x.add(1, 1);
        is(0, () -> find.by(x, 0));
        fails(NO_ELEMENT, () -> find.by(x, 1));
        x.add(0, 1);
        is(1, () -> find.by(x, 0));
        is(0, () -> find.by(x, 1));
    }

    private static void refusesRanks(Find find) {
        for (int wrong : new int[] {-1, 5, 6, 24, 261, Integer.MIN_VALUE, Integer.MAX_VALUE}) {
            refuses(NO_ELEMENT, Sentences::theatre, x -> find.by(x, wrong));
        }
        refuses(NO_ELEMENT, EchoCensus::new, x -> find.by(x, 0));
        refuses(NO_ELEMENT, () -> rows(1, 1), x -> find.by(x, 0));
        fails(NO_ELEMENT, () -> find.by(with18And6(), 24));
        fails(NO_ELEMENT, () -> find.by(fullHouse(), 15));
    }

    private static void loudestAndQuietest() {
        says("Promise 39", "Returns the loudest echo.", () -> {
            EchoCensus x = rows(3, 3, 1);
            addAll(x, 1, 1);
            is(0, x::loudest);
            addAll(x, 0, 998, 999);
            is(2, x::loudest);
            x.lock(0);
            is(2, x::loudest);
            addAll(x, 2, 5);
            x.unlock(0);
            x.remove(2);
            is(1, x::loudest);
            x.setHeir(1, 0);
            x.remove(1);
            is(0, x::loudest); // has 999 now
        });
        says("Promise 39", "Of several such echoes it is the one with the lowest id.", () -> {
            EchoCensus x = rows(3, 3);
            addAll(x, 1, 3, 7);
            addAll(x, 0, 7, 7);
            is(1, x::loudest); // not the one with the lowest rank
            x.remove(1);
            is(2, x::loudest);
            x.remove(2);
            is(3, x::loudest);
        });
        says("Promise 39", "if no echo is active", () -> {
            refuses(NO_ELEMENT, EchoCensus::new, EchoCensus::loudest);
            refuses(NO_ELEMENT, () -> rows(1, 2), EchoCensus::loudest);
            EchoCensus x = rows(1);
            x.add(0, 1);
            x.remove(0);
            fails(NO_ELEMENT, x::loudest);
        });
        says("Promise 40", "Returns the row with the lowest sum of loudness.", () -> {
            EchoCensus x = rows(3, 3, 3);
            addAll(x, 0, 3, 3);
            addAll(x, 1, 4);
            addAll(x, 2, 1, 1, 1);
            is(2, x::quietestRow);
            x.lock(2);
            is(2, x::quietestRow);
            x.unlock(2);
            x.move(2, 0);
            is(1, x::quietestRow); // is empty
        });
        says("Promise 40", "Of several such rows it is the one with the lowest number.", () -> {
            is(0, () -> rows(1, 1, 1, 1, 1, 1, 1, 1).quietestRow());
            EchoCensus x = rows(2, 2, 2, 2);
            x.add(0, 6);
            is(1, x::quietestRow);
            x.add(3, 5);
            x.add(2, 3);
            x.add(2, 2);
            x.add(1, 5);
            is(1, x::quietestRow);
            x.add(1, 1);
            is(2, x::quietestRow);
        });
        says("Promise 40", "if there are no rows", () -> {
            refuses(NO_ELEMENT, EchoCensus::new, EchoCensus::quietestRow);
            is(0, () -> rows(1).quietestRow());
            EchoCensus x = rows(1);
            x.undo();
            fails(NO_ELEMENT, x::quietestRow);
        });
    }

    private static void boxes() {
        says("Promise 41", "Returns whether a box names a row.", () -> {
            EchoCensus x = rows(1, 1);
            for (char box = 'a'; box <= 'h'; box++) {
                char name = box;
                is(false, () -> x.isNamed(name));
                x.nameRow(name, name % 2);
                is(true, () -> x.isNamed(name));
            }
            x.undo();
            is(false, () -> x.isNamed('h'));
            is(true, () -> x.isNamed('g'));
        });
        says("Promise 41", "if the name is not from 'a' to 'h'", () -> {
            for (char wrong : NO_BOXES) {
                refuses(ARGUMENT, Sentences::theatre, x -> x.isNamed(wrong));
            }
        });
        says("Promise 42", "Returns the row that a box names.", () -> {
            EchoCensus x = rows(1, 1, 1, 1, 1, 1, 1, 1);
            for (int box : upTo(8)) {
                x.nameRow((char) ('a' + box), (box * 3 + 1) % 8);
            }
            for (int box : upTo(8)) {
                is((box * 3 + 1) % 8, () -> x.namedRow((char) ('a' + box)));
            }
        });
        says("Promise 42", "if the name is not from 'a' to 'h'", () -> {
            for (char wrong : NO_BOXES) {
                refuses(ARGUMENT, Sentences::theatre, x -> x.namedRow(wrong));
            }
        });
        says("Promise 42", "if the box names no row", () -> {
            for (char box = 'a'; box <= 'h'; box++) {
                char name = box;
                if (name != 'b') {
                    refuses(NO_ELEMENT, Sentences::theatre, x -> x.namedRow(name));
                }
            }
            is(1, () -> theatre().namedRow('b'));
        });
        says("Promise 43", "Returns the number of boxes that name a row.", () -> {
            EchoCensus x = rows(1, 1, 1);
            for (int box : upTo(8)) {
                is(box, () -> x.boxCount(1));
                x.nameRow((char) ('a' + box), 1);
            }
            is(8, () -> x.boxCount(1));
            is(0, () -> x.boxCount(0));
            is(0, () -> x.boxCount(2));
            x.nameRow('a', 2);
            is(7, () -> x.boxCount(1));
            is(1, () -> x.boxCount(2));
        });
        says("Promise 43", "if there is no such row", () -> refusesNoRows(row -> x -> x.boxCount(row)));
    }

    private static void counters() {
        says("Promise 44", "Returns how often echoes have been moved so far, by move and by spread.", () -> {
            EchoCensus x = rows(1, 12);
            is(0, x::moveCount);
            x.addPhantoms(0, 6);
            addAll(x, 0, 1, 1, 1, 1);
            is(0, x::moveCount);
            x.move(0, 1);
            is(1, x::moveCount);
            x.spread(0);
            is(3, x::moveCount);
            fails(STATE, () -> x.move(0, 1));
            x.spread(0);
            is(3, x::moveCount);
            x.move(0, 0);
            x.remove(0);
            is(4, x::moveCount); // also the moves of echoes that are no more
            x.undo();
            x.undo();
            is(3, x::moveCount);
            is("2", () -> Check.run(x, "move 0 0;move 0 1"));
            is(5, x::moveCount);
        });
        says("Promise 45", "Returns the number of echoes that have been removed so far.", () -> {
            EchoCensus x = chain(24);
            for (int id : upTo(24)) {
                is(id, x::removeCount);
                x.remove(id);
                fails(NO_ELEMENT, () -> x.remove(id));
            }
            is(24, x::removeCount);
            x.undo();
            is(23, x::removeCount);
            x.lock(1);
            fails(STATE, () -> x.remove(23));
            is(23, x::removeCount);
        });
    }

    private static void sums() {
        says("Promise 46", "the sum of the loudness that all echoes had when they were added", () -> {
            EchoCensus x = rows(12);
            is(0, x::addedLoudness);
            for (int id : upTo(120)) {
                x.add(0, 999);
                x.remove(id);
            }
            is(120 * 999, x::addedLoudness);
            addAll(x, 0, 1, 2);
            x.setHeir(120, 121);
            x.remove(120);
            is(120 * 999 + 3, x::addedLoudness);
            x.remove(121);
            is(120 * 999 + 3, x::addedLoudness);
        });
        says("Promise 47", "Returns the loudness that was lost so far.", () -> {
            EchoCensus x = rows(12);
            is(0, x::lostLoudness);
            addAll(x, 0, 600, 500, 400, 3);
            x.setHeir(0, 1);
            x.setHeir(3, 2);
            x.remove(3);
            is(0, x::lostLoudness);
            x.remove(0);
            is(101, x::lostLoudness);
            x.remove(2);
            is(504, x::lostLoudness);
            x.undo();
            is(101, x::lostLoudness);
        });
        says("Promise 48", "Returns the sum of the loudness of all active echoes.", () -> {
            EchoCensus x = rows(12, 12);
            is(0, x::activeLoudness);
            for (int id : upTo(24)) {
                x.add(id % 2, 999);
                is(999 * (id + 1), x::activeLoudness);
            }
            x.setHeir(0, 1);
            x.remove(0);
            is(999 * 23, x::activeLoudness);
            x.lock(0);
            is(999 * 23, x::activeLoudness);
            for (int id = 1; id < 24; id += 2) {
                x.remove(id);
            }
            is(999 * 11, x::activeLoudness);
        });
    }

    private static void shares() {
        says("Promise 49", "converted to double, divided by the number of rows", () -> {
            for (int count = 1; count <= 8; count++) {
                int[] capacities = new int[count];
                Arrays.fill(capacities, 12);
                EchoCensus x = rows(capacities);
                double rows = count;
                is(0.0, x::meanOccupancy);
                for (int id : upTo(Math.min(12 * count, 24))) {
                    x.add(id / 12, 1);
                    is((id + 1) / rows, x::meanOccupancy);
                }
            }
        });
        says("Promise 49", "if there are no rows", () -> {
            refuses(ARITHMETIC, EchoCensus::new, EchoCensus::meanOccupancy);
            is(0.0, () -> rows(12).meanOccupancy());
        });
        says("Promise 50", "converted to float, divided by the number of all real seats", () -> {
            EchoCensus x = rows(1, 2, 4);
            is(0.0f, x::realShare);
            x.addPhantoms(2, 6);
            x.lock(1);
            for (int echoes : upTo(10)) {
                x.add(2, 1);
                is((echoes + 1) / 7.0f, x::realShare);
            }
            is(24 / 96.0f, () -> {
                EchoCensus most = rows(12, 12, 12, 12, 12, 12, 12, 12);
                for (int id = 0; id < 24; id++) {
                    most.add(id % 8, 1);
                }
                return most.realShare();
            });
        });
        says("Promise 50", "greater than 1 if there are more echoes than real seats", () -> {
            EchoCensus x = rows(1);
            x.addPhantoms(0, 6);
            x.add(0, 1);
            is(1.0f, x::realShare);
            for (int id = 1; id < 7; id++) {
                x.add(0, 1);
                is(id + 1.0f, x::realShare);
            }
            EchoCensus y = rows(2, 1);
            y.addPhantoms(0, 2);
            addAll(y, 0, 1, 1, 1, 1);
            is(4 / 3.0f, y::realShare);
        });
        says("Promise 50", "if there are no rows", () -> {
            refuses(ARITHMETIC, EchoCensus::new, EchoCensus::realShare);
            is(0.0f, () -> rows(1).realShare());
        });
    }
}
