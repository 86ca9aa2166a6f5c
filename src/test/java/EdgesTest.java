import java.io.IOException;

/** Each sentence of the document that names a boundary case, quoted, and held against the program. */
public final class EdgesTest {
    private EdgesTest() {
    }

    public static void main(String[] args) throws IOException {
        Doc.read();
        EdgesOfPlate.run();
        EdgesOfTrees.run();
        EdgesOfWalks.run();
        EdgesOfTexts.run();
        EdgesOfChanges.run();
        EdgesOfGrains.run();
        EdgesOfLooks.run();
        EdgesOfWouldBe.run();
        Doc.allIsQuoted();
        Check.end("EdgesTest");
    }
}
