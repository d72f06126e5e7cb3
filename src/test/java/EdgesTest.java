import java.lang.reflect.InvocationTargetException;
import java.lang.reflect.Method;
import java.util.Arrays;

/** Each call with all its arguments at all their edges, on a few objects in use, against the model; none may throw. */
public final class EdgesTest {
    private static final int LEAST = Integer.MIN_VALUE, GREATEST = Integer.MAX_VALUE;
    private static final int MOST_CALLS = 512, CALLS_TO_COMPARE = 200;
    private static final Integer[] REACH = {LEAST, -1, 0, 1, 2, 3, 4, GREATEST};
    private static final Integer[] LANE = {LEAST, -1, 0, 1, 2, 3, GREATEST};
    private static final Integer[] LEVEL = {LEAST, -10, -9, -8, -1, 0, 1, 8, 9, 10, GREATEST};
    private static final Integer[] PLACE = {LEAST, -1, 0, 1, 2, 3, 4, 18, 19, 59, 60, 61, GREATEST};
    private static final Integer[] COUNT = {LEAST, -1, 0, 1, 2, 4, 10, 18, 19, 60, 61, GREATEST};
    private static final Integer[] ACTS = {LEAST, -1, 0, 1, 2, 3, 4, 40, 41, GREATEST};
    private static final Integer[] NIGHTS = {LEAST, -1, 0, 1, 7, 8, 9, 39, 40, 41, GREATEST};
    private static final Integer[] OF_ACTS = {LEAST, -1, 0, 1, 2, 3, 4, 9, 10, 11, 12, 13, 14, GREATEST};
    private static final Integer[] ACT = {LEAST, -9, -2, -1, 0, 1, 38, 39, 40, GREATEST};
    private static final Integer[] VALUE = {LEAST, -32769, -129, -1, 0, 127, 128, 32768, 65536, GREATEST};
    private static final Boolean[] DID = {false, true};
    private static final Object[][] CALLS = {
        {"canal", REACH, LANE, PLACE, COUNT}, {"ofReach", REACH, REACH}, {"fill", REACH, LEVEL}, {"rain", REACH},
        {"gates"}, {"open", REACH}, {"nights", NIGHTS}, {"acts", REACH, LANE, PLACE, ACTS, OF_ACTS},
        {"boat", REACH, REACH, ACT}, {"raise", REACH, LEVEL, ACT}, {"reading", REACH, LEVEL, DID}, {"back", LEVEL},
        {"limits", REACH}, {"kinds", REACH}, {"levels", REACH}, {"odds", NIGHTS, LEVEL, REACH},
        {"sheet", REACH, LANE, COUNT}, {"lose", REACH}, {"put", REACH, PLACE, VALUE}, {"cell", REACH, PLACE, LANE},
        {"copy", REACH, PLACE, REACH, PLACE, COUNT}, {"tell", REACH}, {"flatter", REACH}, {"as", REACH, LANE},
        {"trace"}, {"fault"}, {"many", REACH}};

    private final int use;
    private WaterConsent x;
    private Model m;
    private int calls;

    private EdgesTest(int use) {
        this.use = use;
    }

    public static void main(String[] args) throws ReflectiveOperationException {
        Check.due("calls of the face", CALLS.length, 27);
        for (int use = 0; use < 4; use++) {
            EdgesTest test = new EdgesTest(use);
            for (Object[] call : CALLS) {
                test.anew();
                test.allOf(call);
                test.compare();
            }
        }
        Check.end();
    }

    /** All rows of arguments, the last argument the fastest. */
    private void allOf(Object[] call) throws ReflectiveOperationException {
        Object[] arguments = new Object[call.length - 1];
        int[] place = new int[arguments.length];
        Class<?>[] types = new Class<?>[arguments.length];
        for (int k = 0; k < types.length; k++) {
            types[k] = call[k + 1] == DID ? boolean.class : int.class;
        }
        Method asked = WaterConsent.class.getMethod((String) call[0], types);
        Method due = Model.class.getDeclaredMethod((String) call[0], types);
        boolean isMore = true;
        while (isMore) {
            for (int k = 0; k < place.length; k++) {
                arguments[k] = ((Object[]) call[k + 1])[place[k]];
            }
            one(asked, due, arguments);
            int k = place.length - 1;
            while (k >= 0 && ++place[k] == ((Object[]) call[k + 1]).length) {
                place[k] = 0;
                k--;
            }
            isMore = k >= 0;
        }
    }

    private void one(Method asked, Method due, Object[] arguments) throws ReflectiveOperationException {
        if (calls > MOST_CALLS - CALLS_TO_COMPARE) {
            compare();
            anew();
        }
        calls += 2;
        String name = "object " + use + ", " + asked.getName() + Arrays.toString(arguments);
        try {
            Check.due(name, ((Number) asked.invoke(x, arguments)).longValue(), ((Number) due.invoke(m, arguments)).longValue());
        } catch (InvocationTargetException e) {
            Check.due(name + " threw " + e.getCause() + ", exceptions", 1, 0);
        }
        Check.due("fault() behind " + name, x.fault(), m.fault());
    }

    // ---- the objects in use: a new one, one that has rows alone, one of two reaches, one of four

    private void anew() {
        x = new WaterConsent();
        m = new Model();
        calls = 0;
        if (use >= 1) {
            row(0, use == 2 ? 1 : 0, "l1;m14;p13;s05;m29".substring(0, use == 2 ? 10 : 18));
            row(1, use == 2 ? 1 : 0, "\0\1\1");
            row(2, 2, use == 3 ? "\3\0\1\2" : "");
        }
        if (use >= 2) {
            canal(use == 2 ? 1 : 0, use == 2 ? 10 : 18);
        }
    }

    private void row(int k, int lane, String cells) {
        due("sheet", x.sheet(k, lane, cells.length()), m.sheet(k, lane, cells.length()));
        for (int i = 0; i < cells.length(); i++) {
            due("put", x.put(k, i, cells.charAt(i)), m.put(k, i, cells.charAt(i)));
        }
    }

    private void canal(int lane, int n) {
        due("canal", x.canal(0, lane, 0, n), m.canal(0, lane, 0, n));
        due("reading", x.reading(1, 0, true), m.reading(1, 0, true));
        due("reading", x.reading(1, -9, true), m.reading(1, -9, true));
        due("reading", x.reading(0, 4, false), m.reading(0, 4, false));
        due("tell", x.tell(1), m.tell(1));
    }

    private void due(String call, long got, long want) {
        calls++;
        Check.due("object " + use + ", " + call, got, want);
    }

    /** All that is told of the state, by 200 calls at most. */
    private void compare() {
        due("fault", x.fault(), m.fault());
        due("trace", x.trace(), m.trace());
        for (int k = 0; k < 4; k++) {
            due("many", x.many(k), m.many(k));
            due("limits", x.limits(k), m.limits(k));
            due("kinds", x.kinds(k), m.kinds(k));
            due("levels", x.levels(k), m.levels(k));
            for (int what = 0; what < 4; what++) {
                due("ofReach", x.ofReach(k, what), m.ofReach(k, what));
            }
            for (int lane = 0; lane < 3; lane++) {
                for (int i : new int[] {0, 1, 2, 3, 17, 18, 59, 60}) {
                    due("cell", x.cell(k, i, lane), m.cell(k, i, lane));
                }
            }
        }
        Check.due("calls of one object, 512 at most", calls <= MOST_CALLS ? 1 : 0, 1);
    }
}
