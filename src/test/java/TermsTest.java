/** The Terms of the document, which all promises share; each part of them has a class of its own. */
final class TermsTest {
    private static final Document DOC = new Document("Terms");

    public static void main(String[] args) {
        PageTerms.tryAll(DOC);
        FilterTerms.tryAll(DOC);
        BlockTerms.tryAll(DOC);
        CallTerms.tryAll(DOC);
        DOC.end();
    }
}
