/** Tests of the sentences of the promises 23 to 26 and 28 to 33: questions about echoes and heirs. */
final class EchoSentences extends Sentences {
    private EchoSentences() {
    }

    static void test() {
        echoes();
        heirs();
        lastHeirs();
    }

    private static void echoes() {
        says("Promise 23", "Returns the number of active echoes.", () -> {
            EchoCensus x = rows(12, 12);
            for (int id : upTo(24)) {
                is(id, x::echoCount);
                x.add(id % 2, 1);
            }
            is(24, x::echoCount);
            fails(STATE, () -> x.add(0, 1));
            for (int id : upTo(24)) {
                is(24 - id, x::echoCount);
                x.remove(id);
            }
            is(0, x::echoCount);
        });
        says("Promise 24", "Returns whether an echo is active.", () -> {
            EchoCensus x = chain(24);
            x.remove(3);
            x.remove(23);
            for (int id : upTo(24)) {
                is(id != 3 && id != 23, () -> x.isActive(id));
            }
        });
        says("Promise 24", "any id", () -> {
            for (int id : noIds(6)) {
                is(false, () -> theatre().isActive(id));
            }
            is(false, () -> theatre().isActive(5));
            is(true, () -> theatre().isActive(4));
            is(false, () -> new EchoCensus().isActive(0));
            is(false, () -> rows(1).isActive(0));
            EchoCensus x = rows(1);
            for (int id : upTo(100)) {
                x.add(0, 1);
                is(true, () -> x.isActive(id));
                x.remove(id);
                is(false, () -> x.isActive(id));
            }
        });
        says("Promise 25", "Returns the row of an echo.", () -> {
            EchoCensus x = theatre();
            is(0, () -> x.rowOf(2));
            is(1, () -> x.rowOf(3));
            is(2, () -> x.rowOf(4));
            x.spread(0);
            is(1, () -> x.rowOf(2));
            x.move(2, 0);
            is(0, () -> x.rowOf(2));
        });
        says("Promise 25", "if no active echo has this id", () -> refusesNoEchoes(id -> x -> x.rowOf(id)));
        says("Promise 26", "Returns the loudness of an echo.", () -> {
            EchoCensus x = rows(4);
            addAll(x, 0, 1, 999, 500, 2);
            is(1, () -> x.loudness(0));
            is(999, () -> x.loudness(1));
            is(500, () -> x.loudness(2));
            x.setHeir(0, 2);
            x.remove(0);
            is(501, () -> x.loudness(2));
            is(2, () -> x.loudness(3));
        });
        says("Promise 26", "if no active echo has this id", () -> refusesNoEchoes(id -> x -> x.loudness(id)));
    }

    private static void heirs() {
        says("Promise 28", "Returns whether an echo has an heir.", () -> {
            EchoCensus x = chain(3);
            is(true, () -> x.hasHeir(0));
            is(true, () -> x.hasHeir(1));
            is(false, () -> x.hasHeir(2)); // is an heir, but has none
            x.remove(2);
            is(false, () -> x.hasHeir(1));
            EchoCensus y = chain(2);
            y.clearHeir(0);
            y.setHeir(1, 0);
            is(true, () -> y.hasHeir(1)); // the heir has id 0
        });
        says("Promise 28", "if no active echo has this id", () -> refusesNoEchoes(id -> x -> x.hasHeir(id)));
        says("Promise 29", "Returns the heir of an echo.", () -> {
            EchoCensus x = chain(24);
            for (int id : upTo(23)) {
                is(id + 1, () -> x.heir(id));
            }
            x.clearHeir(0);
            x.setHeir(23, 0);
            is(0, () -> x.heir(23));
        });
        says("Promise 29", "if no active echo has this id", () -> refusesNoEchoes(id -> x -> x.heir(id)));
        says("Promise 29", "if the echo has no heir", () -> {
            refuses(STATE, Sentences::theatre, x -> x.heir(1));
            refuses(STATE, Sentences::theatre, x -> x.heir(2));
            EchoCensus x = chain(3);
            x.clearHeir(0);
            fails(STATE, () -> x.heir(0));
            x.remove(2);
            fails(STATE, () -> x.heir(1));
        });
        says("Promise 33", "Returns the number of echoes whose heir is this echo.", () -> {
            EchoCensus x = rows(12, 12);
            for (int id : upTo(24)) {
                x.add(id % 2, 1);
                is(0, () -> x.bequeathers(id));
            }
            for (int id : upTo(23)) {
                x.setHeir(1 + id, 0);
                is(id + 1, () -> x.bequeathers(0));
            }
            x.setHeir(5, 6); // the heir of an heir does not count
            is(22, () -> x.bequeathers(0));
            is(1, () -> x.bequeathers(6));
            x.remove(6);
            is(22, () -> x.bequeathers(0));
            is(0, () -> x.bequeathers(5));
        });
        says("Promise 33", "if no active echo has this id", () -> refusesNoEchoes(id -> x -> x.bequeathers(id)));
    }

    private static void lastHeirs() {
        says("Promise 30", "Returns the last heir of an echo", () -> {
            for (int length = 1; length <= 24; length++) {
                int last = length - 1;
                EchoCensus x = chain(length);
                for (int id : upTo(length)) {
                    is(last, () -> x.lastHeir(id));
                }
            }
            EchoCensus x = theatre();
            is(1, () -> x.lastHeir(3));
            is(2, () -> x.lastHeir(2));
        });
        says("Promise 30", "if no active echo has this id", () -> refusesNoEchoes(id -> x -> x.lastHeir(id)));
        says("Promise 31", "Returns the same id as lastHeir", () -> {
            for (int length = 1; length <= 24; length++) {
                int last = length - 1;
                EchoCensus x = chain(length);
                for (int id : upTo(length)) {
                    is(last, () -> x.lastHeirByDoubling(id)); // 0 to 23 steps
                }
            }
            EchoCensus x = chain(24);
            is(23, () -> x.lastHeirByDoubling(0));
            x.remove(22);
            is(23, () -> x.lastHeirByDoubling(0));
            x.clearHeir(16);
            is(16, () -> x.lastHeirByDoubling(0));
            x.undo();
            is(23, () -> x.lastHeirByDoubling(0));
        });
        says("Promise 31", "if no active echo has this id",
                () -> refusesNoEchoes(id -> x -> x.lastHeirByDoubling(id)));
        says("Promise 32", "Returns the number of steps from an echo to its last heir.", () -> {
            EchoCensus x = chain(24);
            for (int id : upTo(24)) {
                is(23 - id, () -> x.stepsToLastHeir(id));
            }
            x.remove(12);
            is(22, () -> x.stepsToLastHeir(0));
            is(10, () -> x.stepsToLastHeir(13));
        });
        says("Promise 32", "0 without an heir", () -> {
            EchoCensus x = theatre();
            is(0, () -> x.stepsToLastHeir(1));
            is(0, () -> x.stepsToLastHeir(4));
            is(1, () -> x.stepsToLastHeir(0));
            x.clearHeir(0);
            is(0, () -> x.stepsToLastHeir(0));
        });
        says("Promise 32", "if no active echo has this id",
                () -> refusesNoEchoes(id -> x -> x.stepsToLastHeir(id)));
    }
}
