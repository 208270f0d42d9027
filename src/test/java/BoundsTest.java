import java.io.IOException;

/** Each sentence of the terms and of promises 1 to 34, with the boundary cases that it names. */
public final class BoundsTest {
    private BoundsTest() {
    }

    public static void main(String[] args) throws IOException {
        BoundsOfTerms.all();
        BoundsOfTexts.all();
        BoundsOfLoanCalls.all();
        BoundsOfPieceCalls.all();
        BoundsOfLineCalls.all();
        Sentences.checkAllTested();
        Check.end();
    }
}
