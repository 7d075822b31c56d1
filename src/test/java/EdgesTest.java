/** Each sentence of the document, and above all the edges that it names, by a test of its own. */
final class EdgesTest {
    public static void main(String[] args) {
        Sentences sentences = new Sentences("EdgesTest");
        TermEdges.tell(sentences);
        TextEdges.tell(sentences);
        LookEdges.tell(sentences);
        ActionEdges.tell(sentences);
        ThoughtEdges.tell(sentences);
        SlotEdges.tell(sentences);
        sentences.end();
    }
}
