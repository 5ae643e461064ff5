/** Each sentence of the document's Terms and promises has a test that says it. */
public final class SentencesTest {
    public static void main(String[] args) {
        Sentence.listOnly();
        KindsTest.hold();
        ActTest.hold();
        WorkTest.hold();
        TryTest.hold();
        ThrowTest.hold();
        StartTest.hold();
        EventTest.hold();
        ReachTest.hold();
        RefusedTest.hold();
        Sentence.dueThatNoneIsLeft();
        Due.end();
    }
}
