import java.util.Set;
import java.util.TreeSet;

/** All tests by sentences of the document; each promise has some. */
public final class EdgesTest {
    private static final int PROMISES = 40;

    public static void main(String[] args) {
        Check check = new Check();
        Set<Integer> promises = new TreeSet<>();
        new StonesEdges(check, promises).runAll();
        new PairEdges(check, promises).runAll();
        new GrainEdges(check, promises).runAll();
        new WearEdges(check, promises).runAll();
        new MealEdges(check, promises).runAll();
        new DressersEdges(check, promises).runAll();
        new ToldEdges(check, promises).runAll();
        for (int promise = 1; promise <= PROMISES; promise++) {
            check.holds("promise " + promise + " has a sentence that is tested", promises.contains(promise));
        }
        check.end();
    }
}
