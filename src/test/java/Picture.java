import java.util.concurrent.Callable;

/** Everything that a census answers, as a text for comparing it with another census. */
final class Picture {
    private final EchoCensus census;
    private final StringBuilder text = new StringBuilder();

    private Picture(EchoCensus census) {
        this.census = census;
    }

    /** All but the past. The census is used up by it: a program runs, and echoes are added. */
    static String of(EchoCensus census) {
        Picture picture = new Picture(census);
        picture.addState();
        picture.addRest();
        picture.addBuffer();
        picture.addNextIds();
        picture.addSavedCopy();
        return picture.text.toString();
    }

    /** The past, undone step by step until there is no more. */
    static String ofPast(EchoCensus census) {
        Picture picture = new Picture(census);
        for (int step = 0; step <= 8; step++) {
            picture.text.append("\nundo ");
            picture.add(census::undo);
            picture.add(census::rowCount);
            picture.add(census::echoCount);
            picture.add(census::addedLoudness);
            picture.add(census::activeLoudness);
            picture.add(census::moveCount);
        }
        picture.addState();
        return picture.text.toString();
    }

    /** All that changes can change, but for the next free id. The census stays as it is. */
    static String ofState(EchoCensus census) {
        Picture picture = new Picture(census);
        picture.addState();
        return picture.text.toString();
    }

    private void add(Callable<?> question) {
        text.append(Check.answer(question)).append(' ');
    }

    private void addState() {
        for (int index = 0; index < census.rowCount(); index++) {
            int row = index;
            text.append("\nrow ");
            add(() -> census.capacity(row));
            add(() -> census.phantoms(row));
            add(() -> census.isLocked(row));
        }
        for (int index = 0; index < census.echoCount(); index++) {
            int id = census.idByRank(index);
            text.append("\necho ").append(id).append(' ');
            add(() -> census.rowOf(id));
            add(() -> census.loudness(id));
            add(() -> census.hasHeir(id) ? census.heir(id) : "-");
        }
        text.append("\nboxes ");
        for (char box = 'a'; box <= 'h'; box++) {
            char name = box;
            add(() -> census.isNamed(name) ? census.namedRow(name) : "-");
        }
        text.append("\ntotals ");
        add(census::moveCount);
        add(census::removeCount);
        add(census::addedLoudness);
        add(census::lostLoudness);
    }

    private void addRest() {
        text.append("\nrest ");
        add(census::undoableCount);
        add(census::errorPosition);
        add(census::failedCommand);
        add(() -> Check.line(census));
    }

    /** The buffer shows itself by what a program becomes that ends in it. */
    private void addBuffer() {
        text.append("\nbuffer ");
        add(() -> census.append('1'));
        add(census::run);
        add(census::errorPosition);
        add(census::failedCommand);
        add(() -> census.capacity(census.rowCount() - 1));
    }

    private void addNextIds() {
        text.append("\nnext ids ");
        for (int index = 0; index < census.rowCount(); index++) {
            int row = index;
            add(() -> census.add(row, 1));
        }
    }

    private void addSavedCopy() {
        text.append("\nrestored ");
        add(census::restore);
        addState();
    }
}
