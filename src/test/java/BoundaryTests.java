import java.io.IOException;

/** Each sentence of the document that names an edge has a test, and each test names its sentence. */
public final class BoundaryTests extends Sentences {
    public static void main(String[] args) throws IOException {
        open();
        CupboardEdges.all();
        TextEdges.all();
        PairingEdges.all();
        OrderEdges.all();
        LentEdges.all();
        KeptEdges.all();
        close();
    }
}
