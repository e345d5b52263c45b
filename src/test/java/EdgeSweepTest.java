import java.lang.reflect.Method;
import java.lang.reflect.Modifier;
import java.util.Arrays;
import java.util.HashSet;
import java.util.Set;

/**
 * From calls that are fine, with one argument after the other (and two at once) put to each edge that the document
 * names: the answer is the oracle's, and so is what can be read then.
 */
public final class EdgeSweepTest {
    private static final Report R = new Report("EdgeSweepTest");
    private static final int[] EDGES = {Integer.MIN_VALUE, -1001, -1000, -3, -2, -1, 0, 1, 2, 3, 4, 5, 6, 7, 8, 9, 10,
        11, 12, 13, 14, 15, 16, 19, 20, 21, 29, 30, 31, 32, 33, 37, 38, 39, 40, 41, 49, 50, 51, 59, 60, 61, 63, 64, 99,
        100, 101, 127, 128, 129, 159, 160, 161, 199, 200, 201, 255, 256, 257, 998, 999, 1000, 1001, 1022, 1023, 1024,
        1025, 9998, 9999, 10000, 65534, 65535, 65536, 1 << 30, Integer.MAX_VALUE};
    private static final int[] FEWER = {Integer.MIN_VALUE, -2, -1, 0, 1, 2, 3, 7, 8, 9, 10, 13, 14, 39, 40, 99, 100,
        101, 255, 256, 999, 1000, 1023, 1024, 9999, 10000, Integer.MAX_VALUE};
    /** Calls that are fine at most offices. */
    private static final String[] FINE = {"dies 3 50", "strip 3 5 1", "deed 0 1 1 20 0 5", "forged 1 true",
        "forged 0 false", "enter 1 40 3 4 5", "mule 1 40 3 4 5", "name 0 5", "lose 0", "heard 6 0 40", "well 40 3",
        "feed 1 2 3 4 5", "law 0 21", "known 2 0", "seen 0 0 40 1", "beats 0 0 1 40 0", "holder 0 40 0", "why 0 1 40",
        "burdens 0 40", "owed 0 40", "unseen 0 40 0", "search 0 40 1", "worst 40 1", "missing 40 1",
        "trial 0 1 3 20 5 30 40 0", "till 0 1 3 20 5 40", "fewest 0 2 40 -1", "odds 0 2 2 40 45 0", "buyer 2 20 5 5",
        "hears 1 0 5", "widow 1", "holds 1 40", "reign 0 1 0 40", "seed 5", "keep", "undo", "check 40 5", "deedIs 1 1",
        "count 4"};

    private final Script office;
    private final Set<String> told = new HashSet<>();

    private EdgeSweepTest(Script office) {
        this.office = office;
    }

    public static void main(String[] args) {
        Method[] face = WidowDeeds.class.getDeclaredMethods();
        long methods = Arrays.stream(face).filter(m -> Modifier.isPublic(m.getModifiers())).count();
        long asked = Arrays.stream(FINE).map(call -> call.split(" ")[0]).distinct().count();
        R.due("every method of the face is asked", asked, methods);
        for (Script office : new Script[] {Offices.EMPTY, Offices.SOME, Offices.NEARLY_FULL, Offices.FULL}) {
            EdgeSweepTest sweep = new EdgeSweepTest(office);
            for (String call : FINE) {
                sweep.oneByOne(call.split(" "));
                sweep.byTwos(call.split(" "));
            }
        }
        R.close();
    }

    private void oneByOne(String[] words) {
        for (int i = 1; i < words.length; i++) {
            String[] changed = words.clone();
            for (int edge : EDGES) {
                changed[i] = Integer.toString(edge);
                ask(changed);
            }
        }
    }

    private void byTwos(String[] words) {
        for (int i = 1; i < words.length; i++) {
            for (int j = i + 1; j < words.length; j++) {
                String[] changed = words.clone();
                for (int draw = 0; draw < FEWER.length; draw++) {
                    changed[i] = Integer.toString(FEWER[draw]);
                    changed[j] = Integer.toString(FEWER[(draw * 5 + i * 7 + j) % FEWER.length]);
                    ask(changed);
                }
            }
        }
    }

    /** The oracle is too slow at it where there are many deeds. */
    private boolean isDear(String name) {
        return office.size() > 100 && name.equals("fewest");
    }

    private void ask(String[] words) {
        String call = String.join(" ", words);
        if (!told.add(call) || isDear(words[0])) {
            return;
        }
        WidowDeeds real = office.office();
        Oracle oracle = office.on(new Oracle());
        R.due("at " + office.size() + ": " + call, Script.call(real, call), Script.call(oracle, call));
        for (int what = 0; what < 38; what++) {
            R.due("at " + office.size() + ", behind " + call + ": count " + what, real.count(what), oracle.count(what));
        }
        for (int d = 0; d < oracle.count(0); d += 1 + d / 4) {
            for (int what = 0; what < 5; what++) {
                R.due("at " + office.size() + ", behind " + call + ": deedIs " + d + " " + what, real.deedIs(d, what),
                    oracle.deedIs(d, what));
            }
        }
        R.due("at " + office.size() + ", behind " + call + ": widow", real.widow(1), oracle.widow(1));
    }
}
