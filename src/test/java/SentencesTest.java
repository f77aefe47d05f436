/** Each sentence of the document, promise by promise, with the cases that it names. */
public final class SentencesTest {
    public static void main(String[] args) {
        ToldSentences.all();
        ActSentences.all();
        AskedSentences.all();
        StateSentences.all();
        FloatSentences.all();
        WereSentences.all();
        Doc.allIsTold();
        Check.end();
    }
}
