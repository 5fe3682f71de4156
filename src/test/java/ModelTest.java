import java.lang.reflect.Method;
import java.lang.reflect.Modifier;
import java.util.ArrayList;
import java.util.Arrays;
import java.util.Comparator;
import java.util.List;

/** Runs of chosen-by-number calls, in which StoneFurrows must answer as the Model does. */
public final class ModelTest {
    private static final int RUNS = 800;
    private static final int CALLS = 256;
    private static final int[] EDGES = {
        Integer.MIN_VALUE, -1000, -102, -25, -24, -2, -1, 0, 1, 2, 3, 5, 6, 7, 8, 9, 12, 23, 24, 30, 31, 60, 61,
        100, 101, 1000, 1001, 1 << 16, Integer.MAX_VALUE};

    private final Check check = new Check();
    private final List<Method> methods = new ArrayList<>();
    private long seed = 20261118;
    private StoneFurrows asked = new StoneFurrows();
    private Model askedModel = new Model();
    private String title = "";

    private int below(int n) {
        seed = seed * 6364136223846793005L + 1442695040888963407L;
        return (int) Math.floorMod(seed >>> 33, (long) n);
    }

    private int from(int low, int high) {
        return low + below(high - low + 1);
    }

    // what each argument of a call is mostly chosen from: low, high, low, high, ..
    private static int[] ranges(String name) {
        return switch (name) {
            case "dress" -> new int[] {0, 3, 1, 4, 1, 4, 1, 24, -24, 24};
            case "spot" -> new int[] {0, 3, 0, 7, 0, 23, 0, 2};
            case "chisel" -> new int[] {0, 3, 0, 7, 0, 23, 0, 60};
            case "crack" -> new int[] {0, 3, 0, 7, 0, 23, 0, 1};
            case "leads" -> new int[] {0, 3, 0, 1};
            case "is" -> new int[] {0, 3, 0, 3};
            case "stuff" -> new int[] {0, 3};
            case "pair" -> new int[] {0, 3, 0, 3};
            case "crossings", "outward" -> new int[] {0, 23};
            case "round" -> new int[] {0, 4};
            case "gap" -> new int[] {1, 60};
            case "hang" -> new int[] {1, 2, 1, 20, 0, 23};
            case "gapAt" -> new int[] {0, 7, 0, 23, 0, 23};
            case "gaps" -> new int[] {0, 1};
            case "grain" -> new int[] {0, 23, 0, 23, 1, 100, 0, 6};
            case "grist" -> new int[] {1, 100, 0, 3};
            case "mill" -> new int[] {1, 60};
            case "staff" -> new int[] {0, 3, 0, 23, 0, 20};
            case "high" -> new int[] {0, 3, 0, 60, 0, 1};
            case "level" -> new int[] {0, 3, 0, 60};
            case "feel" -> new int[] {0, 23, 0, 23, 1, 100};
            case "explained" -> new int[] {0, 960};
            case "sieve" -> new int[] {0, 1000, 0, 1000};
            case "meal" -> new int[] {0, 1000, 0, 2};
            case "due" -> new int[] {0, 5, 0, 14, 0, 30, 1, 3};
            case "free", "given", "begun" -> new int[] {0, 5};
            case "road" -> new int[] {0, 5, 0, 5, 0, 5};
            case "dressers" -> new int[] {1, 3};
            case "count" -> new int[] {0, 8};
            default -> new int[0];
        };
    }

    private Object[] arguments(Method m) {
        Class<?>[] types = m.getParameterTypes();
        int[] ranges = ranges(m.getName());
        Object[] all = new Object[types.length];
        boolean wild = below(8) == 0;
        for (int i = 0; i < all.length; i++) {
            if (types[i] == boolean.class) {
                all[i] = below(2) == 0;
            } else if (wild && below(2) == 0) {
                all[i] = EDGES[below(EDGES.length)];
            } else {
                all[i] = from(ranges[2 * i], ranges[2 * i + 1]);
            }
        }
        if (!wild) {
            bendToRealUse(m.getName(), all);
        }
        return all;
    }

    // numbers chosen each by itself seldom make runs in which much happens
    private void bendToRealUse(String name, Object[] all) {
        switch (name) {
            case "dress" -> {
                all[1] = new int[] {1, 2, 3, 4, 6, 8, 12}[below(7)];
                all[4] = below(2) == 0 ? all[4] : from(-9, 9);
            }
            case "gap" -> all[0] = below(2) == 0 ? all[0] : from(4, 14);
            case "hang" -> {
                if (below(4) == 0) {
                    all[0] = 0;
                    all[1] = 0;
                    all[2] = 0;
                }
            }
            case "chisel" -> all[3] = below(2) == 0 ? all[3] : from(0, 6);
            case "level", "high" -> all[1] = below(2) == 0 ? all[1] : from(0, 8);
            case "explained" -> all[0] = below(2) == 0 ? all[0] : from(0, 40);
            case "feel" -> all[2] = below(4) == 0 ? all[2] : from(3, 16);
            case "sieve" -> all[0] = below(6) == 0 ? all[1] : all[0];
            case "meal" -> all[0] = below(2) == 0 ? all[0] : from(300, 600);
            case "mill" -> all[0] = below(2) == 0 ? all[0] : from(1, 5);
            default -> { }
        }
    }

    // a row of hours or touches is not emptied before it could be full
    private boolean isRare(String name) {
        return switch (name) {
            case "numb", "sweep", "free" -> below(4) != 0;
            case "pair" -> below(3) != 0;
            default -> false;
        };
    }

    private void runOnce(int run) throws ReflectiveOperationException {
        begin("run " + run);
        // some runs keep to a few calls, so that these meet one another often
        int first = run % 3 == 0 ? 0 : below(methods.size());
        int span = run % 3 == 0 ? methods.size() : 4 + below(10);
        for (int i = 0; i < CALLS; i++) {
            Method m = methods.get((first + below(span)) % methods.size());
            if (isRare(m.getName())) {
                continue;
            }
            ask(m, arguments(m));
        }
        ask("digest");
    }

    private void ask(String name, Object... all) throws ReflectiveOperationException {
        ask(methods.get(ORDER.indexOf(name)), all);
    }

    private void ask(Method m, Object[] all) throws ReflectiveOperationException {
        Object want = Model.class.getMethod(m.getName(), m.getParameterTypes()).invoke(askedModel, all);
        Object got = m.invoke(asked, all);
        String call = title + ": " + m.getName() + Arrays.toString(all);
        check.due(call, ((Number) want).longValue(), ((Number) got).longValue());
    }

    private void begin(String newTitle) {
        asked = new StoneFurrows();
        askedModel = new Model();
        title = newTitle;
    }

    private int harps() {
        return new int[] {1, 2, 3, 4, 6, 8, 12}[below(7)];
    }

    // two stones, all that is told of them as one turns, and grains between them
    private void grindOnce(int run) throws ReflectiveOperationException {
        begin("grinding " + run);
        int lead = below(2) == 0 ? 24 : 8;
        for (int k = 0; k < 4; k++) {
            ask("dress", k, harps(), from(1, 4), from(1, 24), from(-lead, lead));
            ask("leads", k, 0);
            ask("leads", k, 1);
        }
        for (int k = 0; k < 16; k++) {
            ask("is", k / 4, k % 4);
        }
        ask("pair", below(4), below(4));
        ask("gap", below(3) == 0 ? from(1, 60) : from(1, 12));
        ask("hang", from(1, 2), from(1, 20), below(24));
        for (int t = 0; t < 24; t++) {
            ask("crossings", t);
            ask("outward", t);
            ask("gapAt", below(8), below(24), t);
        }
        for (int what = 0; what < 7; what++) {
            ask("round", what);
            ask("gaps", what);
            ask("grist", from(1, 100), what);
        }
        ask("drift");
        for (int i = 0; i < 210; i++) {
            ask("grain", below(24), below(24), from(1, 100), i % 7);
        }
        ask("digest");
    }

    private void wearOnce(int run) throws ReflectiveOperationException {
        begin("wearing " + run);
        for (int k = 0; k < 2; k++) {
            ask("dress", k, harps(), from(1, 4), from(1, 24), from(-24, 24));
            for (int i = 0; i < 40; i++) {
                ask("chisel", k, below(8), below(24), from(0, 9));
                ask("crack", k, below(8), below(24), below(3) != 0);
            }
        }
        for (int i = 0; i < 12; i++) {
            ask("mill", below(4) == 0 ? from(1, 60) : from(1, 6));
            for (int k = 0; k < 2; k++) {
                ask("stuff", k);
                ask("staff", k, below(24), from(0, 20));
                ask("high", k, from(0, 9), 0);
                ask("high", k, from(0, 9), 1);
            }
            ask("level", below(2), from(0, 9));
            ask("dress", below(2), harps(), from(1, 4), from(1, 24), from(-24, 24));
        }
        ask("digest");
    }

    private void feelOnce(int run) throws ReflectiveOperationException {
        begin("feeling " + run);
        ask("gap", from(1, 40));
        ask("hang", from(1, 2), from(1, 20), below(24));
        for (int i = 0; i < 12; i++) {
            int a = below(24);
            int t = below(24);
            ask("feel", a, t, askedModel.gapAt(7, a, t) + from(-1, 1));
            ask("explains");
            ask("explained", 0);
            ask("explained", from(0, 9));
        }
        ask("gap", from(1, 40));
        ask("explains");
    }

    private void planOnce(int run) throws ReflectiveOperationException {
        begin("planning " + run);
        int late = from(6, 30);
        for (int m = 0; m < 6; m++) {
            int first = from(0, late / 2);
            int last = Math.min(30, first + from(2, late));
            if (below(6) != 0) {
                ask("due", m, first, last, from(1, 3));
            }
            for (int b = 0; b < m; b++) {
                ask("road", m, b, from(0, below(2) == 0 ? 5 : 1));
            }
        }
        ask("dressers", from(1, 3));
        ask("plan");
        for (int m = 0; m < 6; m++) {
            ask("given", m);
            ask("begun", m);
        }
        ask("dressers", from(1, 3));
        ask("plan");
        for (int m = 0; m < 6; m++) {
            ask("begun", m);
        }
        ask("digest");
    }

    private void siftOnce(int run) throws ReflectiveOperationException {
        begin("sifting " + run);
        for (int i = 0; i < 26; i++) {
            if (below(3) == 0) {
                ask("skip");
            } else {
                ask("sieve", from(0, 20), from(0, 20));
            }
            int x = 100 * from(2, 7);
            ask("meal", x, 0);
            ask("meal", x, 1);
            ask("meal", x, 2);
        }
        ask("digest");
        ask("sweep");
    }

    // in the order of the document, near calls beside one another
    private static final List<String> ORDER = List.of(
        "dress", "spot", "chisel", "crack", "leads", "is", "stuff", "pair", "crossings", "round", "outward", "drift",
        "gap", "hang", "gapAt", "gaps", "grain", "grist", "mill", "staff", "high", "level", "feel", "numb", "explains",
        "explained", "sieve", "skip", "meal", "sweep", "due", "free", "road", "dressers", "plan", "given", "begun",
        "count", "digest");

    public static void main(String[] args) throws ReflectiveOperationException {
        ModelTest test = new ModelTest();
        for (Method m : StoneFurrows.class.getDeclaredMethods()) {
            if (Modifier.isPublic(m.getModifiers())) {
                test.methods.add(m);
            }
        }
        test.methods.sort(Comparator.comparing(m -> ORDER.indexOf(m.getName())));
        test.check.due("the number of methods", ORDER.size(), test.methods.size());
        for (int run = 0; run < RUNS; run++) {
            test.runOnce(run);
        }
        for (int run = 0; run < 150; run++) {
            test.grindOnce(run);
            test.wearOnce(run);
            test.feelOnce(run);
            test.planOnce(run);
            test.siftOnce(run);
        }
        test.check.end();
    }
}
