/** "## Terms" of the document, sentence by sentence. */
public final class TermsTest {
    private TermsTest() {
    }

    public static void main(String[] arguments) {
        TermsOfStations.tests();
        TermsOfTrains.tests();
        TermsOfSignals.tests();
        TermsOfYards.tests();
        Sentences.allSaid(Sentences.TERMS, Sentences.TERMS);
        Check.end();
    }
}
