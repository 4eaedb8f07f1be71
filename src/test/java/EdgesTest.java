import java.io.IOException;

/**
 * The document sentence by sentence: each test names its promise, or its part of the terms, and the
 * sentence; at last the quotes are held against the document, so that no sentence is left out.
 */
final class EdgesTest {
    private EdgesTest() {
    }

    public static void main(String[] args) throws IOException {
        EdgesOfFace.run();
        EdgesOfTerms.run();
        EdgesOfTexts.run();
        EdgesOfKeys.run();
        EdgesOfDoors.run();
        EdgesOfValues.run();
        EdgesOfWhatIf.run();
        EdgesOfCommands.run();
        Document.checkQuotes();
        Check.finish("EdgesTest");
    }
}
