/** Every sentence of the description and of the promises, each with a test of its own that names it. */
final class SentencesTest {
    public static void main(String[] args) {
        DescriptionSentences.run();
        TextSentences.run();
        ReportSentences.run();
        ActSentences.run();
        ServiceSentences.run();
        Section.checkThatAllAreNamed();
        Script.end();
    }
}
