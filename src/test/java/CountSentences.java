import java.util.Arrays;

/** Tests of the sentences of the promises 34 to 50: ranges, ranks, boxes, totals and shares. */
final class CountSentences extends Sentences {
    private CountSentences() {
    }

    static void test() {
        counts();
        ranks();
        loudestAndQuietest();
        boxes();
        counters();
        sums();
        shares();
    }

    private static void counts() {
        says("Promise 34", "Returns the number of echoes in a range of rows, counted row by row.",
                () -> countsRanges((x, first, last) -> x.countInRows(first, last)));
        says("Promise 34", "if there is no such row, for either",
                () -> refusesRanges((x, first, last) -> x.countInRows(first, last)));
        says("Promise 34", "if the first row is greater than the last row",
                () -> refusesReversed((x, first, last) -> x.countInRows(first, last)));
        says("Promise 35", "Returns the same number as countInRows",
                () -> countsRanges((x, first, last) -> x.countInRowsByTree(first, last)));
        says("Promise 35", "if there is no such row, for either",
                () -> refusesRanges((x, first, last) -> x.countInRowsByTree(first, last)));
        says("Promise 35", "if the first row is greater than the last row",
                () -> refusesReversed((x, first, last) -> x.countInRowsByTree(first, last)));
    }

    /** One of the two ways to count. */
    private interface Count {
        int in(EchoCensus census, int first, int last);
    }

    private static void countsRanges(Count count) {
        EchoCensus x = fullHouse();
        for (int first : upTo(8)) {
            int sum = 0;
            for (int last = first; last < 8; last++) {
                int end = last;
                sum += OCCUPANCIES[last];
                is(sum, () -> count.in(x, first, end));
            }
        }
        EchoCensus y = with18And6();
        is(18, () -> count.in(y, 0, 0));
        is(6, () -> count.in(y, 1, 1));
        is(24, () -> count.in(y, 0, 1));
        y.move(0, 1);
        is(17, () -> count.in(y, 0, 0));
        is(7, () -> count.in(y, 1, 1));
        y.remove(0);
        is(6, () -> count.in(y, 1, 1));
        is(0, () -> count.in(rows(1), 0, 0));
        is(0, () -> count.in(rows(1, 1, 1, 1, 1, 1, 1, 1), 0, 7));
    }

    private static EchoCensus with18And6() {
        EchoCensus x = rows(12, 12);
        x.addPhantoms(0, 6);
        for (int id = 0; id < 24; id++) {
            x.add(id / 18, 1);
        }
        return x;
    }

    private static void refusesRanges(Count count) {
        for (int row : noRows(3)) {
            for (int other : upTo(3)) {
                refuses(NO_ROW, Sentences::theatre, x -> count.in(x, row, other));
                refuses(NO_ROW, Sentences::theatre, x -> count.in(x, other, row));
            }
            refuses(NO_ROW, Sentences::theatre, x -> count.in(x, row, row));
        }
        refuses(NO_ROW, EchoCensus::new, x -> count.in(x, 0, 0));
        refuses(NO_ROW, Sentences::fullHouse, x -> count.in(x, 0, 8));
        refuses(NO_ROW, Sentences::fullHouse, x -> count.in(x, 8, 8));
    }

    private static void refusesReversed(Count count) {
        for (int first : upTo(8)) {
            for (int last : upTo(first)) {
                refuses(ARGUMENT, Sentences::fullHouse, x -> count.in(x, first, last));
            }
        }
    }

    private static void ranks() {
        says("Promise 36", "Returns the echo with a rank, counted row by row.",
                () -> findsRanks((x, rank) -> x.idByRank(rank)));
        says("Promise 36", "the rank, starting at 0", () -> startsAt0((x, rank) -> x.idByRank(rank)));
        says("Promise 36", "if there is no such rank", () -> refusesRanks((x, rank) -> x.idByRank(rank)));
        says("Promise 37", "Returns the same id as idByRank",
                () -> findsRanks((x, rank) -> x.idByRankByTree(rank)));
        says("Promise 37", "the rank, starting at 0", () -> startsAt0((x, rank) -> x.idByRankByTree(rank)));
        says("Promise 37", "if there is no such rank", () -> refusesRanks((x, rank) -> x.idByRankByTree(rank)));
        says("Promise 38", "Returns the rank of an echo.", () -> {
            EchoCensus x = fullHouse();
            for (int rank : upTo(15)) {
                is(rank, () -> x.rank(BY_RANK[rank]));
            }
            x.move(0, 1);
            is(2, () -> x.rank(0));
            is(0, () -> x.rank(13));
            is(14, () -> x.rank(4));
            EchoCensus y = with18And6();
            for (int id : upTo(24)) {
                is(id, () -> y.rank(id));
            }
        });
        says("Promise 38", "if no active echo has this id", () -> refusesNoEchoes(id -> x -> x.rank(id)));
    }

    /** The ids of fullHouse() by their ranks. */
    private static final int[] BY_RANK = {13, 14, 10, 11, 12, 9, 5, 6, 7, 8, 0, 1, 2, 3, 4};

    /** One of the two ways to find an echo by its rank. */
    private interface Find {
        int by(EchoCensus census, int rank);
    }

    private static void findsRanks(Find find) {
        EchoCensus x = fullHouse();
        for (int rank : upTo(15)) {
            is(BY_RANK[rank], () -> find.by(x, rank));
        }
        x.move(0, 1);
        is(0, () -> find.by(x, 2));
        is(10, () -> find.by(x, 3));
        is(4, () -> find.by(x, 14));
        x.remove(13);
        is(14, () -> find.by(x, 0));
        EchoCensus y = with18And6();
        for (int rank : upTo(24)) {
            is(rank, () -> find.by(y, rank));
        }
        for (int row : upTo(8)) {
            EchoCensus z = rows(1, 1, 1, 1, 1, 1, 1, 1);
            z.add(row, 1);
            is(0, () -> find.by(z, 0));
            z.add(7 - row, 1);
            is(row < 4 ? 0 : 1, () -> find.by(z, 0));
            is(row < 4 ? 1 : 0, () -> find.by(z, 1));
        }
    }

    private static void startsAt0(Find find) {
        EchoCensus x = rows(1, 1);
        x.add(1, 1);
        is(0, () -> find.by(x, 0));
        fails(NO_ELEMENT, () -> find.by(x, 1));
        x.add(0, 1);
        is(1, () -> find.by(x, 0));
        is(0, () -> find.by(x, 1));
    }

    private static void refusesRanks(Find find) {
        for (int wrong : new int[] {-1, 5, 6, 24, 261, Integer.MIN_VALUE, Integer.MAX_VALUE}) {
            refuses(NO_ELEMENT, Sentences::theatre, x -> find.by(x, wrong));
        }
        refuses(NO_ELEMENT, EchoCensus::new, x -> find.by(x, 0));
        refuses(NO_ELEMENT, () -> rows(1, 1), x -> find.by(x, 0));
        fails(NO_ELEMENT, () -> find.by(with18And6(), 24));
        fails(NO_ELEMENT, () -> find.by(fullHouse(), 15));
    }

    private static void loudestAndQuietest() {
        says("Promise 39", "Returns the loudest echo.", () -> {
            EchoCensus x = rows(3, 3, 1);
            addAll(x, 1, 1);
            is(0, x::loudest);
            addAll(x, 0, 998, 999);
            is(2, x::loudest);
            x.lock(0);
            is(2, x::loudest);
            addAll(x, 2, 5);
            x.unlock(0);
            x.remove(2);
            is(1, x::loudest);
            x.setHeir(1, 0);
            x.remove(1);
            is(0, x::loudest); // has 999 now
            for (int row : upTo(8)) {
                EchoCensus y = rows(2, 2, 2, 2, 2, 2, 2, 2);
                y.add(7 - row, 1);
                y.add(row, 2);
                is(1, y::loudest);
            }
        });
        says("Promise 39", "Of several such echoes it is the one with the lowest id.", () -> {
            EchoCensus x = rows(3, 3);
            addAll(x, 1, 3, 7);
            addAll(x, 0, 7, 7);
            is(1, x::loudest); // not the one with the lowest rank
            x.remove(1);
            is(2, x::loudest);
            x.remove(2);
            is(3, x::loudest);
        });
        says("Promise 39", "if no echo is active", () -> {
            refuses(NO_ELEMENT, EchoCensus::new, EchoCensus::loudest);
            refuses(NO_ELEMENT, () -> rows(1, 2), EchoCensus::loudest);
            EchoCensus x = rows(1);
            x.add(0, 1);
            x.remove(0);
            fails(NO_ELEMENT, x::loudest);
        });
        says("Promise 40", "Returns the row with the lowest sum of loudness.", () -> {
            EchoCensus x = rows(3, 3, 3);
            addAll(x, 0, 3, 3);
            addAll(x, 1, 4);
            addAll(x, 2, 1, 1, 1);
            is(2, x::quietestRow);
            x.lock(2);
            is(2, x::quietestRow);
            x.unlock(2);
            x.move(2, 0);
            is(1, x::quietestRow); // is empty
        });
        says("Promise 40", "Of several such rows it is the one with the lowest number.", () -> {
            is(0, () -> rows(1, 1, 1, 1, 1, 1, 1, 1).quietestRow());
            EchoCensus x = rows(2, 2, 2, 2);
            x.add(0, 6);
            is(1, x::quietestRow);
            x.add(3, 5);
            x.add(2, 3);
            x.add(2, 2);
            x.add(1, 5);
            is(1, x::quietestRow);
            x.add(1, 1);
            is(2, x::quietestRow);
        });
        says("Promise 40", "if there are no rows", () -> {
            refuses(NO_ELEMENT, EchoCensus::new, EchoCensus::quietestRow);
            is(0, () -> rows(1).quietestRow());
            EchoCensus x = rows(1);
            x.undo();
            fails(NO_ELEMENT, x::quietestRow);
        });
    }

    private static void boxes() {
        says("Promise 41", "Returns whether a box names a row.", () -> {
            EchoCensus x = rows(1, 1);
            for (char box = 'a'; box <= 'h'; box++) {
                char name = box;
                is(false, () -> x.isNamed(name));
                x.nameRow(name, name % 2);
                is(true, () -> x.isNamed(name));
            }
            x.undo();
            is(false, () -> x.isNamed('h'));
            is(true, () -> x.isNamed('g'));
        });
        says("Promise 41", "if the name is not from 'a' to 'h'", () -> {
            for (char wrong : NO_BOXES) {
                refuses(ARGUMENT, Sentences::theatre, x -> x.isNamed(wrong));
            }
        });
        says("Promise 42", "Returns the row that a box names.", () -> {
            EchoCensus x = rows(1, 1, 1, 1, 1, 1, 1, 1);
            for (int box : upTo(8)) {
                x.nameRow((char) ('a' + box), (box * 3 + 1) % 8);
            }
            for (int box : upTo(8)) {
                is((box * 3 + 1) % 8, () -> x.namedRow((char) ('a' + box)));
            }
        });
        says("Promise 42", "if the name is not from 'a' to 'h'", () -> {
            for (char wrong : NO_BOXES) {
                refuses(ARGUMENT, Sentences::theatre, x -> x.namedRow(wrong));
            }
        });
        says("Promise 42", "if the box names no row", () -> {
            for (char box = 'a'; box <= 'h'; box++) {
                char name = box;
                if (name != 'b') {
                    refuses(NO_ELEMENT, Sentences::theatre, x -> x.namedRow(name));
                }
            }
            is(1, () -> theatre().namedRow('b'));
        });
        says("Promise 43", "Returns the number of boxes that name a row.", () -> {
            EchoCensus x = rows(1, 1, 1);
            for (int box : upTo(8)) {
                is(box, () -> x.boxCount(1));
                x.nameRow((char) ('a' + box), 1);
            }
            is(8, () -> x.boxCount(1));
            is(0, () -> x.boxCount(0));
            is(0, () -> x.boxCount(2));
            x.nameRow('a', 2);
            is(7, () -> x.boxCount(1));
            is(1, () -> x.boxCount(2));
        });
        says("Promise 43", "if there is no such row", () -> refusesNoRows(row -> x -> x.boxCount(row)));
    }

    private static void counters() {
        says("Promise 44", "Returns how often echoes have been moved so far, by move and by spread.", () -> {
            EchoCensus x = rows(1, 12);
            is(0, x::moveCount);
            x.addPhantoms(0, 6);
            addAll(x, 0, 1, 1, 1, 1);
            is(0, x::moveCount);
            x.move(0, 1);
            is(1, x::moveCount);
            x.spread(0);
            is(3, x::moveCount);
            fails(STATE, () -> x.move(0, 1));
            x.spread(0);
            is(3, x::moveCount);
            x.move(0, 0);
            x.remove(0);
            is(4, x::moveCount); // also the moves of echoes that are no more
            x.undo();
            x.undo();
            is(3, x::moveCount);
            is("2", () -> Check.run(x, "move 0 0;move 0 1"));
            is(5, x::moveCount);
        });
        says("Promise 45", "Returns the number of echoes that have been removed so far.", () -> {
            EchoCensus x = chain(24);
            for (int id : upTo(24)) {
                is(id, x::removeCount);
                x.remove(id);
                fails(NO_ELEMENT, () -> x.remove(id));
            }
            is(24, x::removeCount);
            x.undo();
            is(23, x::removeCount);
            x.lock(1);
            fails(STATE, () -> x.remove(23));
            is(23, x::removeCount);
        });
    }

    private static void sums() {
        says("Promise 46", "the sum of the loudness that all echoes had when they were added", () -> {
            EchoCensus x = rows(12);
            is(0, x::addedLoudness);
            for (int id : upTo(120)) {
                x.add(0, 999);
                x.remove(id);
            }
            is(120 * 999, x::addedLoudness);
            addAll(x, 0, 1, 2);
            x.setHeir(120, 121);
            x.remove(120);
            is(120 * 999 + 3, x::addedLoudness);
            x.remove(121);
            is(120 * 999 + 3, x::addedLoudness);
        });
        says("Promise 47", "Returns the loudness that was lost so far.", () -> {
            EchoCensus x = rows(12);
            is(0, x::lostLoudness);
            addAll(x, 0, 600, 500, 400, 3);
            x.setHeir(0, 1);
            x.setHeir(3, 2);
            x.remove(3);
            is(0, x::lostLoudness);
            x.remove(0);
            is(101, x::lostLoudness);
            x.remove(2);
            is(504, x::lostLoudness);
            x.undo();
            is(101, x::lostLoudness);
        });
        says("Promise 48", "Returns the sum of the loudness of all active echoes.", () -> {
            EchoCensus x = rows(12, 12);
            is(0, x::activeLoudness);
            for (int id : upTo(24)) {
                x.add(id % 2, 999);
                is(999 * (id + 1), x::activeLoudness);
            }
            x.setHeir(0, 1);
            x.remove(0);
            is(999 * 23, x::activeLoudness);
            x.lock(0);
            is(999 * 23, x::activeLoudness);
            for (int id = 1; id < 24; id += 2) {
                x.remove(id);
            }
            is(999 * 11, x::activeLoudness);
        });
    }

    private static void shares() {
        says("Promise 49", "converted to double, divided by the number of rows", () -> {
            for (int count = 1; count <= 8; count++) {
                int[] capacities = new int[count];
                Arrays.fill(capacities, 12);
                EchoCensus x = rows(capacities);
                double rows = count;
                is(0.0, x::meanOccupancy);
                for (int id : upTo(Math.min(12 * count, 24))) {
                    x.add(id / 12, 1);
                    is((id + 1) / rows, x::meanOccupancy);
                }
            }
        });
        says("Promise 49", "if there are no rows", () -> {
            refuses(ARITHMETIC, EchoCensus::new, EchoCensus::meanOccupancy);
            is(0.0, () -> rows(12).meanOccupancy());
        });
        says("Promise 50", "converted to float, divided by the number of all real seats", () -> {
            EchoCensus x = rows(1, 2, 4);
            is(0.0f, x::realShare);
            x.addPhantoms(2, 6);
            x.lock(1);
            for (int echoes : upTo(10)) {
                x.add(2, 1);
                is((echoes + 1) / 7.0f, x::realShare);
            }
            is(24 / 96.0f, () -> {
                EchoCensus most = rows(12, 12, 12, 12, 12, 12, 12, 12);
                for (int id = 0; id < 24; id++) {
                    most.add(id % 8, 1);
                }
                return most.realShare();
            });
        });
        says("Promise 50", "greater than 1 if there are more echoes than real seats", () -> {
            EchoCensus x = rows(1);
            x.addPhantoms(0, 6);
            x.add(0, 1);
            is(1.0f, x::realShare);
            for (int id = 1; id < 7; id++) {
                x.add(0, 1);
                is(id + 1.0f, x::realShare);
            }
            EchoCensus y = rows(2, 1);
            y.addPhantoms(0, 2);
            addAll(y, 0, 1, 1, 1, 1);
            is(4 / 3.0f, y::realShare);
        });
        says("Promise 50", "if there are no rows", () -> {
            refuses(ARITHMETIC, EchoCensus::new, EchoCensus::realShare);
            is(0.0f, () -> rows(1).realShare());
        });
    }
}
