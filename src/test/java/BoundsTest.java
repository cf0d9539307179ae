/** Each sentence of the document that names a bound, an edge or a refusal, by its own words. */
public final class BoundsTest {
    public static void main(String[] args) {
        TermsBounds.all();
        LawBounds.all();
        ThoughtBounds.all();
        HeadsBounds.all();
        DeedsBounds.all();
        ShelvesBounds.all();
        AnswersBounds.all();
        Doc.allSaid();
        Due.end();
    }
}
