import java.io.IOException;
import java.lang.reflect.Method;
import java.lang.reflect.Modifier;
import java.nio.file.Files;
import java.nio.file.Path;
import java.util.ArrayList;
import java.util.Arrays;
import java.util.Comparator;
import java.util.HashMap;
import java.util.List;
import java.util.Map;
import java.util.Set;

/**
 * Tests by sentences of the document. A test is a method without arguments: it
 * says which promise and which sentence it holds, and then asks a new object.
 * A refused call is also held against a second object that never heard it.
 */
abstract class Edges {
    static final int NONE = -1, UNKNOWN = -101, OUTSIDE = -102, STATE = -103, FULL = -104;
    static final int LEAST = Integer.MIN_VALUE, MOST = Integer.MAX_VALUE;
    private static final int CALLS = 512;
    private static final Path DOCUMENT = Path.of("../shared/DOC.md");
    private static final Map<String, Method> METHODS = methods();
    private static final List<Call> LATER = later();

    private final Check check;
    private final String[] sections;
    private final Set<Integer> promises;
    private final List<Call> past = new ArrayList<>();
    private StoneFurrows asked = new StoneFurrows();
    private int calls = 0;
    private String title = "";

    record Call(String name, int... arguments) {
        long on(StoneFurrows x) {
            Method m = METHODS.get(name);
            Object[] all = new Object[arguments.length];
            for (int i = 0; i < all.length; i++) {
                if (m.getParameterTypes()[i] == boolean.class) {
                    all[i] = arguments[i] != 0;
                } else {
                    all[i] = arguments[i];
                }
            }
            try {
                return ((Number) m.invoke(x, all)).longValue();
            } catch (ReflectiveOperationException e) {
                throw new IllegalStateException(this + " ended with " + e.getCause(), e);
            }
        }

        @Override
        public String toString() {
            String inside = Arrays.toString(arguments);
            return name + "(" + inside.substring(1, inside.length() - 1) + ")";
        }
    }

    Edges(Check check, Set<Integer> promises) {
        this.check = check;
        this.promises = promises;
        this.sections = sections();
    }

    private static Map<String, Method> methods() {
        Map<String, Method> all = new HashMap<>();
        for (Method m : StoneFurrows.class.getDeclaredMethods()) {
            if (Modifier.isPublic(m.getModifiers())) {
                all.put(m.getName(), m);
            }
        }
        return all;
    }

    // section 0 is all that stands ahead of promise 1; no document there: no sentence is looked up
    private static String[] sections() {
        try {
            String text = Files.exists(DOCUMENT) ? Files.readString(DOCUMENT) : "";
            return text.replaceAll("\\s+", " ").split("## Promise \\d+: ");
        } catch (IOException e) {
            throw new IllegalStateException(e);
        }
    }

    // by name, so that none can be forgotten
    final void runAll() {
        List<Method> tests = new ArrayList<>();
        for (Method m : getClass().getDeclaredMethods()) {
            if (m.getParameterCount() == 0 && m.getReturnType() == void.class && !Modifier.isPrivate(m.getModifiers())) {
                tests.add(m);
            }
        }
        tests.sort(Comparator.comparing(Method::getName));
        for (Method m : tests) {
            title = "";
            try {
                m.invoke(this);
            } catch (ReflectiveOperationException e) {
                throw new IllegalStateException(m.getName(), e);
            }
            check.holds(m.getName() + " says what it holds", !title.isEmpty());
        }
    }

    /** What the calls from here on hold: a sentence of that promise, or of the Terms that it is told in. */
    final void says(int promise, String sentence) {
        title = "Promise " + promise + ", \"" + sentence + "\"";
        promises.add(promise);
        if (sections.length > 1) {
            boolean found = promise < sections.length && sections[promise].contains(sentence);
            check.holds(title + " stands in the document", found || sections[0].contains(sentence));
        }
        anew();
    }

    final void anew() {
        asked = new StoneFurrows();
        past.clear();
        calls = 0;
    }

    final long ask(String name, int... arguments) {
        Call call = new Call(name, arguments);
        past.add(call);
        calls++;
        check.holds(title + ": more than " + CALLS + " calls", calls <= CALLS);
        return call.on(asked);
    }

    /** A call and what it must answer. */
    final void due(long want, String name, int... arguments) {
        long got = ask(name, arguments);
        check.due(title + ": " + past.get(past.size() - 1) + " behind " + (past.size() - 1) + " calls", want, got);
    }

    /** A call that only makes what is wanted; it must not be refused. */
    final void told(String name, int... arguments) {
        long got = ask(name, arguments);
        check.holds(title + ": " + past.get(past.size() - 1) + " was refused", got >= NONE);
    }

    /** A call that must be refused so, and after which all goes on as if it had not been made. */
    final void refused(int want, String name, int... arguments) {
        List<Call> before = new ArrayList<>(past);
        due(want, name, arguments);
        past.remove(past.size() - 1);
        goesOnAlike(before, new Call(name, arguments));
    }

    private void goesOnAlike(List<Call> before, Call refusedCall) {
        StoneFurrows heard = replayed(before);
        StoneFurrows spared = replayed(before);
        refusedCall.on(heard);
        for (Call call : LATER) {
            check.due(title + ": " + call + " behind the refused " + refusedCall, call.on(spared), call.on(heard));
        }
        check.holds(title + ": too long for what comes later", before.size() + LATER.size() < CALLS);
    }

    private static StoneFurrows replayed(List<Call> all) {
        StoneFurrows x = new StoneFurrows();
        for (Call call : all) {
            call.on(x);
        }
        return x;
    }

    private static int[] with(int[] arguments, int at, int value) {
        int[] all = arguments.clone();
        all[at] = value;
        return all;
    }

    /** The argument at that place is taken from least to greatest, and refused beside these. */
    final void within(int least, int greatest, int refusal, int at, String name, int... arguments) {
        for (int v : new int[] {least, greatest}) {
            Call call = new Call(name, with(arguments, at, v));
            check.holds(title + ": " + call + " is taken", call.on(replayed(past)) != refusal);
        }
        for (int v : new int[] {least - 1, greatest + 1, LEAST, MOST}) {
            refused(refusal, name, with(arguments, at, v));
        }
    }

    /** Just these SECTORS of a RING are FURROW. */
    final void furrowsAre(int k, int r, int... sectors) {
        for (int a = 0; a < 24; a++) {
            int sector = a;
            due(Arrays.stream(sectors).anyMatch(s -> s == sector) ? 1 : 0, "spot", k, r, a, 0);
        }
    }

    /** A STONE of FURROWS alone. */
    final void allFurrow(int k) {
        due(192, "dress", k, 12, 2, 1, 0);
    }

    final void same(String what, long want, long got) {
        check.due(title + ": " + what, want, got);
    }

    // every call of the face: first what only tells, then what changes, then what these answer now
    private static List<Call> later() {
        List<Call> all = new ArrayList<>();
        addTelling(all);
        addChanging(all);
        addTelling(all);
        for (String name : METHODS.keySet()) {
            if (all.stream().noneMatch(call -> call.name().equals(name))) {
                throw new IllegalStateException("later() leaves out " + name);
            }
        }
        return all;
    }

    private static void add(List<Call> all, String name, int... arguments) {
        all.add(new Call(name, arguments));
    }

    private static void addTelling(List<Call> all) {
        add(all, "digest");
        for (int what = 0; what < 9; what++) {
            add(all, "count", what);
        }
        for (int k = 0; k < 4; k++) {
            add(all, "stuff", k);
            add(all, "leads", k, 0);
            add(all, "is", k, (k + 1) % 4);
        }
        add(all, "spot", 3, 7, 23, 1);
        add(all, "crossings", 23);
        add(all, "round", 0);
        add(all, "outward", 0);
        add(all, "drift");
        add(all, "gapAt", 7, 0, 1);
        add(all, "gaps", 0);
        add(all, "grain", 1, 0, 50, 4);
        add(all, "staff", 0, 5, 1);
        add(all, "high", 0, 0, 0);
        add(all, "explains");
        add(all, "explained", 0);
        add(all, "meal", 400, 1);
    }

    private static void addChanging(List<Call> all) {
        add(all, "plan");
        add(all, "grist", 30, 1);
        add(all, "crack", 0, 7, 23, 1);
        add(all, "chisel", 3, 0, 0, 1);
        add(all, "skip");
        add(all, "sieve", 5, 5);
        add(all, "feel", 0, 0, 11);
        add(all, "due", 5, 0, 9, 2);
        add(all, "road", 0, 5, 3);
        add(all, "dressers", 2);
        add(all, "given", 5);
        add(all, "begun", 0);
        add(all, "free", 0);
        add(all, "mill", 2);
        add(all, "level", 0, 0);
        add(all, "gap", 9);
        add(all, "hang", 1, 2, 3);
        add(all, "pair", 2, 1);
        add(all, "dress", 1, 2, 2, 3, 4);
        add(all, "numb");
        add(all, "sweep");
    }
}
