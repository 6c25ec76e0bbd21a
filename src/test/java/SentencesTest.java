/**
 * Every sentence of the document, in its order, with a test of its own. ConventionsSay to UndoSays
 * go through "What it is" and "Description", the others through the promises 1 to 25.
 */
public final class SentencesTest {
    public static void main(String[] args) {
        Sentences document = new Sentences();
        ConventionsSay.tell(document);
        TowersSay.tell(document);
        PlansSay.tell(document);
        TextsSay.tell(document);
        UndoSays.tell(document);
        TextPromises.tell(document);
        PlacePromises.tell(document);
        PlanPromises.tell(document);
        CheapestPromises.tell(document);
        TellPromises.tell(document);
        document.end();
    }
}
