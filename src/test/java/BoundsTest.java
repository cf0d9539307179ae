/** Each sentence of the document by its own words: those that name a bound, an edge or a refusal, and the plain ones. */
public final class BoundsTest {
    public static void main(String[] args) {
        TermsBounds.all();
        LawBounds.all();
        ThoughtBounds.all();
        HeadsBounds.all();
        DeedsBounds.all();
        ShelvesBounds.all();
        AnswersBounds.all();
        PlainSentences.all();
        Doc.allSaid();
        Due.end();
    }
}
