/**
 * Every sentence of the document that names an edge: the smallest and the largest, the ones beyond, the empty and the
 * full, where a number goes round, and each refused call. A complaint names the promise and the sentence.
 */
public final class EdgesTest {
    private EdgesTest() {
    }

    public static void main(String[] args) {
        Due due = new Due("EdgesTest");
        new EdgesOfTime(due).run();
        new EdgesOfNodes(due).run();
        new EdgesOfFlow(due).run();
        new EdgesOfCalls(due).run();
        new EdgesOfAgents(due).run();
        new EdgesOfTaking(due).run();
        new EdgesOfRefusals(due).run();
        due.allSentencesAreNamed();
        due.close();
    }
}
