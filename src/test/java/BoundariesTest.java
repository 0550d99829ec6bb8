import java.io.IOException;

/**
 * Each sentence of the document, from the Terms to the last promise, has a test of its own, above
 * all of the boundary cases that it names; and no sentence is left out.
 */
public final class BoundariesTest {
    public static void main(String[] args) throws IOException {
        Checks checks = new Checks("BoundariesTest");
        Document document = new Document();
        Boundaries[] parts = {
            new NetworkBoundaries(checks, document),
            new VehicleBoundaries(checks, document),
            new WayBoundaries(checks, document),
            new TickBoundaries(checks, document),
            new SignalBoundaries(checks, document),
            new CountBoundaries(checks, document),
            new TellingBoundaries(checks, document),
            new AskingBoundaries(checks, document),
            new WouldBeBoundaries(checks, document),
            new RefusedBoundaries(checks, document),
        };
        for (Boundaries part : parts) {
            part.run();
        }
        checks.about("");
        for (String piece : document.unquoted()) {
            checks.fail("no test is about: " + piece);
        }
        checks.end();
    }
}
