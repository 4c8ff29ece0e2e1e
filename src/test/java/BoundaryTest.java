import java.io.IOException;

/** A test for each sentence of the document that names a boundary; that none is left without one is a test too. */
public final class BoundaryTest {
    public static void main(String[] args) throws IOException {
        Doc.read();
        BoundariesOfTerms.run();
        BoundariesOfOwing.run();
        BoundariesOfLorries.run();
        BoundariesOfGangs.run();
        BoundariesOfGoods.run();
        BoundariesOfMoney.run();
        BoundariesOfPlans.run();
        Doc.checkThatAllIsQuoted();
        Check.finish();
    }
}
