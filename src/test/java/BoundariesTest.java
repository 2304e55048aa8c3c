import java.io.IOException;

/** Each sentence of the document by itself, from its first line on: the bounds that it names, from both sides. */
public final class BoundariesTest {
    public static void main(String[] args) throws IOException {
        Sentences doc = new Sentences(new Checks("BoundariesTest"));
        Bounds[] tests = {new UseBounds(doc), new NumberBounds(doc), new NetworkBounds(doc), new CountBounds(doc),
            new WayBounds(doc), new BookBounds(doc), new TextBounds(doc), new StateBounds(doc)};
        for (Bounds test : tests) test.all();
        doc.end();
    }
}
