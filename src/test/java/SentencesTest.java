/** A test for each sentence of the document that names an edge; each word of its terms and promises is quoted by one. */
final class SentencesTest {
    public static void main(String[] args) {
        EdgesOfText.all();
        EdgesOfHall.all();
        EdgesOfRun.all();
        EdgesOfLead.all();
        EdgesOfAsk.all();
        RefusedCalls.all();
        if (Sentences.isThere()) {
            Check.sameText("sentences without a test", "", Sentences.unquoted());
        }
        Check.finish("SentencesTest");
    }
}
