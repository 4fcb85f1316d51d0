/** Tests of the sentences of the promises 51 to 54: the check of the census, and the line. */
final class LineSentences extends Sentences {
    private LineSentences() {
    }

    static void test() {
        consistency();
        formattedRows();
        formattedEchoes();
        characters();
    }

    /** That an inconsistent census is noticed, too, is tested by ConsistencyTest. */
    private static void consistency() {
        says("Promise 51", "Checks the census", () -> {
            is(true, () -> new EchoCensus().isConsistent());
            is(true, () -> rows(1).isConsistent());
            is(true, () -> theatre().isConsistent());
            is(true, () -> fullHouse().isConsistent());
            for (int length : upTo(25)) {
                is(true, () -> chain(length).isConsistent());
            }
        });
        says("Promise 51", "Returns true if all these checks succeed.", () -> {
            EchoCensus x = rows(12, 1, 2);
            x.addPhantoms(0, 6);
            for (int id : upTo(18)) {
                x.add(0, 999);
                is(true, x::isConsistent);
            }
            x.setHeir(0, 17);
            x.remove(0);
            is(true, x::isConsistent); // 999 were lost
            x.spread(0);
            is(true, x::isConsistent);
            x.undo();
            is(true, x::isConsistent);
        });
    }

    private static void formattedRows() {
        says("Promise 52", "Formats a row into the line, replacing the previous line", () -> {
            EchoCensus x = rows(12, 1, 3);
            formats("0[0/12]", x, () -> x.formatRow(0));
            formats("1[0/1]", x, () -> x.formatRow(1));
            x.add(1, 999);
            formats("1[1/1] 0:999", x, () -> x.formatRow(1));
            x.lock(1);
            formats("1[1/1]! 0:999", x, () -> x.formatRow(1));
            x.addPhantoms(2, 6);
            formats("2[0/3+6]", x, () -> x.formatRow(2));
            x.removePhantoms(2, 6);
            formats("2[0/3]", x, () -> x.formatRow(2));
            x.lock(2);
            formats("2[0/3]!", x, () -> x.formatRow(2));
            for (int id = 1; id <= 10; id++) {
                x.add(0, id == 10 ? 1 : 100 + id);
            }
            formats("0[10/12] 1:101 2:102 3:103 4:104 5:105 6:106 7:107 8:108 9:109 10:1", x,
                    () -> x.formatRow(0));
            x.unlock(1);
            x.unlock(2);
            x.addPhantoms(2, 2);
            x.move(3, 2);
            x.move(0, 2);
            x.move(10, 2);
            x.move(2, 2);
            formats("2[4/3+2] 0:999 2:102 3:103 10:1", x, () -> x.formatRow(2)); // by id
        });
        says("Promise 52", "An example is \"2[2/5+1]! 4:20 9:999\".", () -> {
            EchoCensus x = rows(12, 1, 5);
            for (int id = 0; id < 10; id++) {
                x.add(id == 4 || id == 9 ? 2 : 0, id == 4 ? 20 : id == 9 ? 999 : 5);
            }
            x.addPhantoms(2, 1);
            x.lock(2);
            formats("2[2/5+1]! 4:20 9:999", x, () -> x.formatRow(2));
        });
        says("Promise 52", "Returns the length of the line.", () -> {
            EchoCensus x = rows(12);
            x.addPhantoms(0, 6);
            for (int id = 0; id < 100; id++) {
                x.add(0, 1);
                x.remove(id);
            }
            is(9, () -> x.formatRow(0));
            for (int id : upTo(18)) {
                x.add(0, 999);
                is((id < 9 ? 9 : 10) + 8 * (id + 1), () -> x.formatRow(0)); // such as " 100:999"
            }
            is('9', () -> x.lineChar(10 + 8 * 18 - 1));
            fails(NO_ROW, () -> x.lineChar(10 + 8 * 18));
        });
        says("Promise 52", "if there is no such row", () -> {
            refusesNoRows(row -> x -> x.formatRow(row));
            is(27, () -> fullHouse().formatRow(7));
        });
    }

    private static void formattedEchoes() {
        says("Promise 53", "Formats an echo into the line, replacing the previous line", () -> {
            EchoCensus x = rows(12, 12, 12);
            for (int id = 0; id < 12; id++) {
                x.add(id % 3, 1 + id * 90);
            }
            formats("#0@0=1", x, () -> x.formatEcho(0));
            formats("#11@2=991", x, () -> x.formatEcho(11));
            x.setHeir(11, 0);
            formats("#11@2=991>0", x, () -> x.formatEcho(11));
            x.setHeir(0, 10);
            formats("#0@0=1>10", x, () -> x.formatEcho(0));
            formats("#10@1=901", x, () -> x.formatEcho(10));
            x.lock(0);
            x.clearHeir(0);
            formats("#0@0=1", x, () -> x.formatEcho(0));
            x.move(11, 1);
            x.formatRow(2);
            formats("#11@1=991>0", x, () -> x.formatEcho(11));
        });
        says("Promise 53", "An example is \"#7@2=15>9\".", () -> {
            EchoCensus x = rows(12, 1, 1);
            for (int id = 0; id < 10; id++) {
                x.add(id == 7 ? 2 : 0, 15);
            }
            x.setHeir(7, 9);
            formats("#7@2=15>9", x, () -> x.formatEcho(7));
        });
        says("Promise 53", "Returns the length of the line.", () -> {
            EchoCensus x = rows(2);
            for (int id = 0; id < 100; id++) {
                x.add(0, 1);
                x.remove(id);
            }
            addAll(x, 0, 999, 9);
            is(10, () -> x.formatEcho(100));
            x.setHeir(100, 101);
            is(14, () -> x.formatEcho(100));
            is(8, () -> x.formatEcho(101));
        });
        says("Promise 53", "if no active echo has this id", () -> {
            refusesNoEchoes(id -> x -> x.formatEcho(id));
        });
    }

    private static void characters() {
        says("Promise 54", "Returns a character of the line, which is empty at first.", () -> {
            fails(NO_ROW, () -> new EchoCensus().lineChar(0));
            EchoCensus x = theatre();
            String due = "#1@0=20";
            for (int index : upTo(due.length())) {
                is(due.charAt(index), () -> x.lineChar(index));
            }
            x.add(1, 1);
            x.move(1, 1);
            is('0', () -> x.lineChar(3)); // the line stays until the next formatting
        });
        says("Promise 54", "the index, starting at 0", () -> {
            EchoCensus x = theatre();
            is('#', () -> x.lineChar(0));
            is('1', () -> x.lineChar(1));
        });
        says("Promise 54", "if the index is negative or not less than the length of the line", () -> {
            for (int wrong : new int[] {-1, -7, 7, 8, 263, Integer.MIN_VALUE, Integer.MAX_VALUE}) {
                refuses(NO_ROW, Sentences::theatre, x -> x.lineChar(wrong));
            }
            is('0', () -> theatre().lineChar(6));
            for (int wrong : new int[] {0, -1, 1}) {
                refuses(NO_ROW, EchoCensus::new, x -> x.lineChar(wrong));
            }
            EchoCensus x = theatre();
            x.formatRow(0);
            x.formatRow(2); // is shorter
            is('0', () -> x.lineChar(11));
            fails(NO_ROW, () -> x.lineChar(12));
        });
    }
}
