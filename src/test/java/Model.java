import java.util.ArrayList;
import java.util.Arrays;
import java.util.HashMap;
import java.util.List;
import java.util.Map;
import java.util.regex.Matcher;
import java.util.regex.Pattern;

/** The document once more, in plain and slow ways, to compare long runs of calls with. */
final class Model {
    private static final Pattern TEXT = Pattern.compile("l[0-3](;[mps][0-9][0-9]){2,4}");
    private static final long LOST = Long.MIN_VALUE;

    private final Object[] sheets = new Object[4];
    private List<int[]> reaches = new ArrayList<>();
    private int rain;
    private final List<int[]> readings = new ArrayList<>();
    private int trace;
    private int fault;

    private static int want(int kind, int limit) {
        int want = limit;
        if (kind >= 1) {
            want = Math.max(0, limit - 1);
        }
        if (kind == 2) {
            want = want >> 1;
        }
        return want;
    }

    private boolean noReach(int r) {
        return r < 0 || r >= reaches.size();
    }

    private static boolean not(int v, int from, int to) {
        return v < from || v > to;
    }

    private static int laneOf(Object row) {
        return row instanceof byte[] ? 0 : row instanceof short[] ? 1 : 2;
    }

    private static int lengthOf(Object row) {
        return java.lang.reflect.Array.getLength(row);
    }

    private static int get(Object row, int i) {
        return java.lang.reflect.Array.getInt(row, i);
    }

    private int fault(int which) {
        fault = which;
        return which == 0 ? 0 : -10 - which;
    }

    private int taking(int sheet, int lane, int i, long n) {
        Object row = sheets[sheet];
        if (row == null) {
            return fault(1);
        }
        if (laneOf(row) != lane) {
            return fault(2);
        }
        if (n < 0) {
            return fault(4);
        }
        return i < 0 || i > lengthOf(row) || i + n > lengthOf(row) ? fault(3) : 0;
    }

    int canal(int sheet, int lane, int i, int n) {
        fault = 0;
        if (not(sheet, 0, 3)) {
            return -1;
        }
        if (not(lane, 0, 2)) {
            return -2;
        }
        if (taking(sheet, lane, i, n) != 0) {
            return -10 - fault;
        }
        StringBuilder text = new StringBuilder();
        for (int k = i; k < i + n; k++) {
            int code = get(sheets[sheet], k);
            text.append(code < 0 || code > 127 ? '~' : (char) code);
        }
        if (TEXT.matcher(text).matches()) {
            take(text.toString());
            return reaches.size();
        }
        for (int length = 1; length <= n; length++) {
            Matcher m = TEXT.matcher(text.substring(0, length));
            if (!m.matches() && !m.hitEnd()) {
                return -100 - (length - 1);
            }
        }
        return -100 - n;
    }

    private void take(String text) {
        String[] parts = text.split(";");
        rain = Integer.parseInt(parts[0].substring(1));
        reaches = new ArrayList<>();
        readings.clear();
        for (int r = 1; r < parts.length; r++) {
            reaches.add(new int[] {"mps".indexOf(parts[r].charAt(0)), Integer.parseInt(parts[r].substring(1, 2)),
                Integer.parseInt(parts[r].substring(2))});
        }
    }

    int ofReach(int r, int what) {
        if (noReach(r)) {
            return -1;
        }
        int[] reach = reaches.get(r);
        return not(what, 0, 3) ? -2 : what == 3 ? want(reach[0], reach[2]) : reach[what];
    }

    int fill(int r, int v) {
        if (noReach(r)) {
            return -1;
        }
        if (not(v, 0, 9)) {
            return -2;
        }
        int was = reaches.get(r)[1];
        reaches.get(r)[1] = v;
        return was;
    }

    int rain(int v) {
        if (not(v, 0, 3)) {
            return -2;
        }
        if (reaches.isEmpty()) {
            return -3;
        }
        int was = rain;
        rain = v;
        return was;
    }

    private List<Integer> levelsNow() {
        List<Integer> levels = new ArrayList<>();
        for (int[] reach : reaches) {
            levels.add(reach[1]);
        }
        return levels;
    }

    private void setLevels(List<Integer> levels) {
        for (int r = 0; r < levels.size(); r++) {
            reaches.get(r)[1] = levels.get(r);
        }
    }

    /** The levels behind an act; null: silence. */
    private List<Integer> behind(List<Integer> levels, int act) {
        List<Integer> then = new ArrayList<>(levels);
        int last = levels.size() - 1;
        if (act == last) {
            then.set(0, Math.min(9, then.get(0) + rain));
            then.set(last, Math.max(0, then.get(last) - 1));
            return then;
        }
        int[] below = reaches.get(act + 1);
        if (levels.get(act) < 1 || levels.get(act + 1) >= want(below[0], below[2])) {
            return null;
        }
        then.set(act, then.get(act) - 1);
        then.set(act + 1, then.get(act + 1) + 1);
        return then;
    }

    private int gatesOf(List<Integer> levels) {
        int set = 0;
        for (int g = 0; g < levels.size() - 1; g++) {
            set += behind(levels, g) == null ? 0 : 1 << g;
        }
        return set;
    }

    int gates() {
        return reaches.isEmpty() ? -3 : gatesOf(levelsNow());
    }

    int open(int g) {
        if (not(g, 0, reaches.size() - 2)) {
            return -1;
        }
        List<Integer> then = behind(levelsNow(), g);
        if (then == null) {
            return -3;
        }
        setLevels(then);
        return then.get(g + 1);
    }

    int nights(int n) {
        if (not(n, 0, 40)) {
            return -2;
        }
        if (reaches.isEmpty()) {
            return -3;
        }
        for (int k = 0; k < n; k++) {
            setLevels(behind(levelsNow(), reaches.size() - 1));
        }
        return reaches.get(0)[1];
    }

    int acts(int sheet, int lane, int i, int n, int what) {
        fault = 0;
        if (not(sheet, 0, 3)) {
            return -1;
        }
        if (not(lane, 0, 2) || not(n, 0, 40) || not(what, 0, 3) && not(what, 10, 13)) {
            return -2;
        }
        if (reaches.isEmpty()) {
            return -3;
        }
        if (taking(sheet, lane, i, n) != 0) {
            return -10 - fault;
        }
        for (int k = i; k < i + n; k++) {
            if (not(get(sheets[sheet], k), 0, reaches.size() - 1)) {
                return -2;
            }
        }
        List<Integer> levels = levelsNow();
        int openings = 0;
        for (int k = 0; k < n; k++) {
            int act = get(sheets[sheet], i + k);
            levels = behind(levels, act);
            if (levels == null) {
                return what == 1 ? k : -100 - k;
            }
            openings += act < reaches.size() - 1 ? 1 : 0;
        }
        if (what >= 10) {
            return what - 10 < levels.size() ? levels.get(what - 10) : -9;
        }
        int sum = 0;
        for (int level : levels) {
            sum += level;
        }
        return what == 0 ? sum : what == 1 ? -9 : what == 2 ? openings : gatesOf(levels);
    }

    /** Rows as texts, one for each state (levels, then the boat), longer ones a layer at a time. */
    private String shortest(int boat, int to, int r, int v) {
        Map<List<Integer>, String> layer = new HashMap<>();
        Map<List<Integer>, String> all = new HashMap<>();
        List<Integer> start = levelsNow();
        start.add(boat);
        layer.put(start, "");
        for (int acts = 0; acts <= 40 && !layer.isEmpty(); acts++) {
            String best = null;
            Map<List<Integer>, String> next = new HashMap<>();
            for (Map.Entry<List<Integer>, String> e : layer.entrySet()) {
                int at = e.getKey().get(reaches.size());
                if (r < 0 ? at == to : e.getKey().get(r) >= v) {
                    best = best == null || e.getValue().compareTo(best) < 0 ? e.getValue() : best;
                }
                all.put(e.getKey(), e.getValue());
            }
            if (best != null) {
                return best;
            }
            for (Map.Entry<List<Integer>, String> e : layer.entrySet()) {
                int at = e.getKey().get(reaches.size());
                for (int act = 0; act < reaches.size(); act++) {
                    List<Integer> then = behind(e.getKey().subList(0, reaches.size()), act);
                    if (then != null) {
                        then.add(act == at && act < reaches.size() - 1 ? at + 1 : at);
                        String row = e.getValue() + act;
                        if (!all.containsKey(then)) {
                            next.merge(then, row, (a, b) -> a.compareTo(b) < 0 ? a : b);
                        }
                    }
                }
            }
            layer = next;
        }
        return null;
    }

    private static int actOf(String row, int k) {
        if (row == null) {
            return -9;
        }
        return k == -1 ? row.length() : k < row.length() ? row.charAt(k) - '0' : -9;
    }

    int boat(int from, int to, int k) {
        if (noReach(from) || noReach(to)) {
            return -1;
        }
        if (from >= to) {
            return -3;
        }
        return not(k, -1, 39) ? -2 : actOf(shortest(from, to, -1, 0), k);
    }

    int raise(int r, int v, int k) {
        if (noReach(r)) {
            return -1;
        }
        return not(v, 0, 9) || not(k, -1, 39) ? -2 : actOf(shortest(9, 9, r, v), k);
    }

    int reading(int r, int v, boolean did) {
        if (noReach(r)) {
            return -1;
        }
        if (not(v, 0, 9) && v != -9) {
            return -2;
        }
        if (readings.size() == 8) {
            return -4;
        }
        readings.add(new int[] {r, v, did ? 1 : 0});
        return readings.size() - 1;
    }

    int back(int k) {
        if (not(k, 0, readings.size())) {
            return -2;
        }
        readings.subList(readings.size() - k, readings.size()).clear();
        return readings.size();
    }

    private int fitting(int r, int what, int most) {
        if (noReach(r)) {
            return -1;
        }
        int set = 0;
        int own = reaches.get(r)[what];
        for (int v = most; v >= 0; v--) {
            reaches.get(r)[what] = v;
            boolean fits = true;
            for (int[] reading : readings) {
                int[] reach = reaches.get(reading[0]);
                int level = reading[1] == -9 ? reach[1] : reading[1];
                fits &= (level < want(reach[0], reach[2]) ? 1 : 0) == reading[2];
            }
            set += fits ? 1 << v : 0;
        }
        reaches.get(r)[what] = own;
        return set;
    }

    int limits(int r) {
        return fitting(r, 2, 9);
    }

    int kinds(int r) {
        return fitting(r, 0, 2);
    }

    int levels(int r) {
        return fitting(r, 1, 9);
    }

    long odds(int n, int v, int which) {
        if (reaches.isEmpty() || not(n, 0, 8) || not(v, 0, 9) || not(which, 0, 1)) {
            return LOST;
        }
        int good = 0;
        for (int row = 0; row < 1 << n; row++) {
            int level = reaches.get(0)[1];
            for (int night = 0; night < n; night++) {
                level = (row >> night & 1) == 1 ? Math.min(9, level + rain) : level;
            }
            good += level >= v ? 1 : 0;
        }
        java.math.BigInteger upper = java.math.BigInteger.valueOf(good);
        java.math.BigInteger lower = java.math.BigInteger.ONE.shiftLeft(n);
        return (which == 0 ? upper : lower).divide(upper.gcd(lower)).longValue();
    }

    int sheet(int k, int lane, int n) {
        fault = 0;
        if (not(k, 0, 3)) {
            return -1;
        }
        if (not(lane, 0, 2) || n > 60) {
            return -2;
        }
        if (n < 0) {
            return fault(4);
        }
        sheets[k] = lane == 0 ? new byte[n] : lane == 1 ? new short[n] : new int[n];
        return 1;
    }

    int lose(int k) {
        if (not(k, 0, 3)) {
            return -1;
        }
        int had = sheets[k] == null ? 0 : 1;
        sheets[k] = null;
        return had;
    }

    int put(int k, int i, int v) {
        fault = 0;
        if (not(k, 0, 3)) {
            return -1;
        }
        Object row = sheets[k];
        if (row == null) {
            return fault(1);
        }
        if (not(i, 0, lengthOf(row) - 1)) {
            return fault(3);
        }
        if (row instanceof byte[]) {
            ((byte[]) row)[i] = (byte) v;
        } else if (row instanceof short[]) {
            ((short[]) row)[i] = (short) v;
        } else {
            ((int[]) row)[i] = v;
        }
        return 1;
    }

    long cell(int k, int i, int lane) {
        fault = 0;
        if (not(k, 0, 3) || not(lane, 0, 2)) {
            return LOST;
        }
        return taking(k, lane, i, 1) != 0 ? LOST : get(sheets[k], i);
    }

    int copy(int k, int i, int other, int j, int n) {
        fault = 0;
        if (not(k, 0, 3) || not(other, 0, 3)) {
            return -1;
        }
        if (sheets[k] == null || sheets[other] == null) {
            return fault(1);
        }
        if (sheets[k].getClass() != sheets[other].getClass()) {
            return fault(2);
        }
        try {
            System.arraycopy(sheets[k], i, sheets[other], j, n);
        } catch (IndexOutOfBoundsException e) {
            return fault(3);
        }
        return n;
    }

    private void leave(int... bodies) {
        for (int body : bodies) {
            trace = trace * 31 + body;
        }
    }

    int tell(int r) {
        if (noReach(r)) {
            return -1;
        }
        int limit = reaches.get(r)[2];
        int kind = reaches.get(r)[0];
        leave(Arrays.copyOf(new int[][] {{1}, {2, 1}, {3, 2, 1, 1}}[kind], new int[] {1, 2, 4}[kind]));
        return kind == 0 ? limit : kind == 1 ? 100 + limit : 100 + 2 * limit;
    }

    int flatter(int r) {
        if (noReach(r)) {
            return -1;
        }
        boolean sulky = reaches.get(r)[0] == 2;
        leave(sulky ? 5 : 4);
        return sulky ? 70 : r;
    }

    int as(int r, int kind) {
        fault = 0;
        if (noReach(r)) {
            return -1;
        }
        if (not(kind, 0, 2)) {
            return -2;
        }
        return reaches.get(r)[0] < kind ? fault(2) : 1;
    }

    int trace() {
        return trace;
    }

    int fault() {
        return fault;
    }

    int many(int what) {
        if (not(what, 0, 3)) {
            return -2;
        }
        int sum = 0;
        for (int[] reach : reaches) {
            sum += reach[1];
        }
        return what == 0 ? reaches.size() : what == 1 ? rain : what == 2 ? sum : readings.size();
    }
}
