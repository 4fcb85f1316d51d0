/** Every sentence of the document with a test of its own, and no such sentence without one. */
public final class SentencesTest {
    public static void main(String[] args) {
        TermsSentences.test();
        CommandSentences.test();
        UndoSentences.test();
        ChangeSentences.test();
        RowSentences.test();
        EchoSentences.test();
        CountSentences.test();
        LineSentences.test();
        for (String sentence : Sentences.DOCUMENT.unquoted()) {
            Check.equal("the number of tests of " + sentence, 1, () -> 0);
        }
        Check.finish();
    }
}
