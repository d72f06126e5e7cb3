/** Runs of 512 calls on new objects, the same ones each time, against the model; no call may throw. */
public final class RandomRunsTest {
    private static final int[] FAR = {Integer.MIN_VALUE, Integer.MAX_VALUE, -9, -2, -1, 40, 41, 61, 1000000};
    private static long seed;

    private WaterConsent x = new WaterConsent();
    private Model m = new Model();
    private int calls;
    private String name;

    public static void main(String[] args) {
        int runs = args.length > 0 ? Integer.parseInt(args[0]) : 150;
        for (int run = 0; run < runs; run++) {
            seed = 7919L * run + 17;
            new RandomRunsTest().run(run);
        }
        Check.end();
    }

    private void run(int run) {
        while (calls < 450) {
            name = "run " + run + ", call " + calls + ": ";
            int which = below(40);
            if (which < 4 || calls == 0) {
                tellCanal();
            } else if (which < 6) {
                tellActs();
            } else {
                one(which % 27);
            }
        }
        for (int what = 0; what < 4; what++) {
            due("many", x.many(what), m.many(what));
        }
    }

    private static int below(int n) {
        seed = seed * 6364136223846793005L + 1442695040888963407L;
        return (int) ((seed >>> 33) % n);
    }

    /** Mostly from -1 to one above most, now and then far from there. */
    private static int near(int most) {
        return below(40) == 0 ? FAR[below(FAR.length)] : below(8) == 0 ? below(most + 3) - 1 : below(most + 1);
    }

    private void due(String call, long got, long want) {
        calls++;
        Check.due(name + call, got, want);
    }

    private void tellCanal() {
        StringBuilder text = new StringBuilder("l").append(below(4));
        int count = 2 + below(3);
        int most = below(3) == 0 ? 10 : 4;
        for (int r = 0; r < count; r++) {
            text.append(';').append("mmps".charAt(below(4))).append(below(most)).append(below(10));
        }
        if (below(4) == 0) {
            int place = below(text.length());
            text.setCharAt(place, "l;mps0459x ".charAt(below(11)));
        }
        if (below(6) == 0) {
            text.setLength(below(text.length() + 1));
        } else if (below(6) == 0) {
            text.append(";m11", 0, below(5));
        }
        int lane = below(3);
        int sheet = below(4);
        int i = below(3);
        rowOf(sheet, lane, i, text.toString());
        due("canal " + text, x.canal(sheet, lane, i, text.length()), m.canal(sheet, lane, i, text.length()));
    }

    private void rowOf(int sheet, int lane, int i, String text) {
        int n = i + text.length() + below(2);
        due("sheet", x.sheet(sheet, lane, n), m.sheet(sheet, lane, n));
        for (int k = 0; k < text.length(); k++) {
            due("put", x.put(sheet, i + k, text.charAt(k)), m.put(sheet, i + k, text.charAt(k)));
        }
    }

    private void tellActs() {
        StringBuilder text = new StringBuilder();
        int n = below(7);
        for (int k = 0; k < n; k++) {
            text.append((char) below(30 - below(27) + 1));
            if (text.charAt(k) > 4) {
                text.setCharAt(k, (char) Math.max(0, m.many(0) - 1));
            }
        }
        int lane = below(3);
        int sheet = below(4);
        rowOf(sheet, lane, 0, text.toString());
        for (int k = 0; k < 8; k++) {
            int what = k < 4 ? k : k + 6;
            due("acts " + what, x.acts(sheet, lane, 0, n, what), m.acts(sheet, lane, 0, n, what));
        }
    }

    private void one(int which) {
        int a = near(3);
        int b = near(3);
        int c = near(3);
        int d = near(9);
        int e = near(5);
        boolean did = below(2) == 0;
        switch (which) {
            case 0 -> due("canal", x.canal(a, b, d, e), m.canal(a, b, d, e));
            case 1 -> due("ofReach", x.ofReach(a, b), m.ofReach(a, b));
            case 2 -> due("fill", x.fill(a, d), m.fill(a, d));
            case 3 -> due("rain", x.rain(a), m.rain(a));
            case 4 -> due("gates", x.gates(), m.gates());
            case 5 -> due("open", x.open(a), m.open(a));
            case 6 -> due("nights", x.nights(e), m.nights(e));
            case 7 -> acts(a, b, c, e);
            case 8 -> boats(a, b, d);
            case 9 -> raises(a, d, e);
            case 10 -> reading(a, d, did);
            case 11 -> due("back", x.back(b), m.back(b));
            case 12 -> due("limits", x.limits(a), m.limits(a));
            case 13 -> due("kinds", x.kinds(a), m.kinds(a));
            case 14 -> due("levels", x.levels(a), m.levels(a));
            case 15 -> odds(d, e, a);
            default -> five(which, a, b, c, d);
        }
        due("fault", x.fault(), m.fault());
    }

    private void five(int which, int a, int b, int c, int d) {
        int e = near(5);
        switch (which) {
            case 16 -> due("sheet", x.sheet(a, b, d), m.sheet(a, b, d));
            case 17 -> due("lose", x.lose(a), m.lose(a));
            case 18 -> put(a, d);
            case 19 -> due("cell", x.cell(a, d, b), m.cell(a, d, b));
            case 20, 26 -> due("copy", x.copy(a, d, b, c, e), m.copy(a, d, b, c, e));
            case 21 -> due("tell", x.tell(a), m.tell(a));
            case 22 -> due("flatter", x.flatter(a), m.flatter(a));
            case 23 -> due("as", x.as(a, b), m.as(a, b));
            case 24 -> due("trace", x.trace(), m.trace());
            default -> due("many", x.many(a), m.many(a));
        }
    }

    private void acts(int a, int b, int c, int e) {
        int what = near(3) + (below(2) == 0 ? 10 : 0);
        due("acts", x.acts(a, b, c, e, what), m.acts(a, b, c, e, what));
    }

    private void boats(int a, int b, int d) {
        due("boat, acts", x.boat(a, b, -1), m.boat(a, b, -1));
        due("boat", x.boat(a, b, d), m.boat(a, b, d));
        due("boat", x.boat(a, b, 39), m.boat(a, b, 39));
    }

    private void raises(int a, int d, int e) {
        due("raise, acts", x.raise(a, d, -1), m.raise(a, d, -1));
        due("raise", x.raise(a, d, e), m.raise(a, d, e));
        due("raise", x.raise(a, d, d), m.raise(a, d, d));
    }

    private void reading(int a, int d, boolean did) {
        int v = below(3) == 0 ? -9 : d;
        // Mostly what is so, or else no set would have anything.
        int want = m.ofReach(a, 3);
        int level = v == -9 ? m.ofReach(a, 1) : v;
        boolean told = below(4) == 0 ? did : level < want;
        due("reading", x.reading(a, v, told), m.reading(a, v, told));
        for (int r = 0; r < 4; r++) {
            due("limits", x.limits(r), m.limits(r));
            due("kinds", x.kinds(r), m.kinds(r));
            due("levels", x.levels(r), m.levels(r));
        }
    }

    private void odds(int d, int e, int a) {
        int which = below(8) == 0 ? a : below(2);
        due("odds", x.odds(e, d, which), m.odds(e, d, which));
        due("odds", x.odds(d, e, which), m.odds(d, e, which));
    }

    private void put(int a, int d) {
        int v = below(2) == 0 ? below(4) : (int) (seed >>> 20);
        due("put", x.put(a, d, v), m.put(a, d, v));
        for (int lane = 0; lane < 3; lane++) {
            due("cell", x.cell(a, d, lane), m.cell(a, d, lane));
        }
    }
}
