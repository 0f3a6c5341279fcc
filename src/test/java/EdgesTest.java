import java.io.IOException;

/** Each sentence of the document that promises something has tests of its own, beside which it stands. */
public final class EdgesTest {
    private EdgesTest() {
    }

    public static void main(String[] args) throws IOException {
        ArmsEdges.all();
        PullsEdges.all();
        TextsEdges.all();
        LooksEdges.all();
        WouldBeEdges.all();
        RefusedEdges.all();
        Edge.endWith(new Document());
    }
}
