/** What it is, the terms and all fifteen promises: each sentence has a test of its own. */
public final class SentencesTest {
    public static void main(String[] args) {
        Checks checks = new Checks("SentencesTest");
        Sentences sentences = new Sentences(checks);
        OverviewSentences.hold(sentences);
        TargetSentences.hold(sentences);
        RowSentences.hold(sentences);
        AspectSentences.hold(sentences);
        DoingSentences.hold(sentences);
        AnswerSentences.hold(sentences);
        OutputSentences.hold(sentences);
        ChangingSentences.hold(sentences);
        sentences.dueAll();
        checks.end();
    }
}
