import java.io.IOException;
import java.nio.file.Path;
import java.util.List;

/**
 * The boundary cases, sentence by sentence: each check stands under the sentence of the document that
 * it is about, and in the end each sentence has had a check or is one that names no boundary.
 */
final class EdgesTest {
    private static final List<String> PLAIN = List.of(
            "A simulator of a flight of canal locks for toy boats: water flows between basins through"
                    + " valves and open gates, rain and a drain change its amount, and boats of three"
                    + " colours pass the gates one by one.",
            "The class offers exact comparisons of levels, the amount of water that equalizes two basins in"
                    + " two ways, predictions, an event log, rankings, a small command language, undo and a"
                    + " snapshot.",
            "It is not thread-safe.", "Basins.", "Valves and gates.", "Boats.", "It is in a basin.",
            "One minute.", "A minute passes in these steps.", "Rain and drain.", "Events.", "Predictions.",
            "Scripts.", "Changes.", "Exceptions.");

    public static void main(String[] args) throws IOException {
        Doc.read(Path.of(args.length > 0 ? args[0] : "../shared", "DOC.md"));
        TermsWaterEdges.check();
        TermsBoatsEdges.check();
        TermsScriptsEdges.check();
        ChangesEdges.check();
        WaterEdges.check();
        BoatsEdges.check();
        EventsEdges.check();
        ScriptsEdges.check();
        UndoEdges.check();
        Doc.everySentenceIsChecked(PLAIN);
        Check.end();
    }
}
