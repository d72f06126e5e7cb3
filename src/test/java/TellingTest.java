/** Promises 23 to 28: tell, flatter, as, trace, fault, many. */
public final class TellingTest {
    private static final String THREE = "l1;m14;p13;s05";

    public static void main(String[] args) {
        tell();
        flatter();
        as();
        trace();
        fault();
        many();
        Check.end();
    }

    private static int traceOf(int... bodies) {
        int trace = 0;
        for (int body : bodies) {
            trace = trace * 31 + body;
        }
        return trace;
    }

    private static void tell() {
        Check.promise(23);
        for (int limit = 0; limit <= 9; limit += 3) {
            String text = "l1;m1" + limit + ";p2" + limit + ";s3" + limit;
            WaterConsent x = Check.canalOf(text);
            Check.due("mild", x.tell(0), limit);
            Check.due("its bodies", x.trace(), traceOf(1));
            x = Check.canalOf(text);
            Check.due("proud", x.tell(1), limit + 100);
            Check.due("its bodies", x.trace(), traceOf(2, 1));
            x = Check.canalOf(text);
            Check.due("sulky", x.tell(2), 2 * limit + 100);
            Check.due("its bodies", x.trace(), traceOf(3, 2, 1, 1));
            Check.due("UNKNOWN: 3", x.tell(3), -1);
            Check.due("UNKNOWN: -1", x.tell(-1), -1);
            Check.due("no body more", x.trace(), traceOf(3, 2, 1, 1));
        }
        Check.due("UNKNOWN without a canal", new WaterConsent().tell(0), -1);
    }

    private static void flatter() {
        Check.promise(24);
        WaterConsent x = Check.canalOf("l1;s14;m13;p05;s11");
        Check.due("sulky", x.flatter(0), 70);
        Check.due("its own body", x.trace(), traceOf(5));
        Check.due("mild", x.flatter(1), 1);
        Check.due("the lent body", x.trace(), traceOf(5, 4));
        Check.due("proud", x.flatter(2), 2);
        Check.due("the lent body", x.trace(), traceOf(5, 4, 4));
        Check.due("sulky", x.flatter(3), 70);
        Check.due("UNKNOWN: 4", x.flatter(4), -1);
        Check.due("UNKNOWN: -1", x.flatter(-1), -1);
        Check.due("no body more", x.trace(), traceOf(5, 4, 4, 5));
        Check.due("UNKNOWN without a canal", new WaterConsent().flatter(0), -1);
    }

    private static void as() {
        Check.promise(25);
        WaterConsent x = Check.canalOf(THREE);
        for (int r = 0; r < 3; r++) {
            for (int kind = 0; kind < 3; kind++) {
                Check.due("as(" + r + ", " + kind + ")", x.as(r, kind), kind <= r ? 1 : Check.CAST);
                Check.due("fault()", x.fault(), kind <= r ? 0 : 2);
            }
        }
        x.as(0, 1);
        Check.due("UNKNOWN ahead of OUTSIDE", x.as(3, 3), -1);
        Check.due("fault()", x.fault(), 0);
        x.as(0, 1);
        Check.due("OUTSIDE: 3", x.as(0, 3), -2);
        Check.due("fault()", x.fault(), 0);
        Check.due("OUTSIDE: -1", x.as(0, -1), -2);
        Check.due("UNKNOWN: -1", x.as(-1, 0), -1);
        Check.due("UNKNOWN without a canal", new WaterConsent().as(0, 0), -1);
    }

    private static void trace() {
        Check.promise(26);
        WaterConsent x = Check.canalOf(THREE);
        Check.due("0 at first", x.trace(), 0);
        int[] bodies = new int[0];
        for (int k = 0; k < 20; k++) {
            x.tell(1);
            x.flatter(2);
            bodies = java.util.Arrays.copyOf(bodies, bodies.length + 3);
            bodies[bodies.length - 3] = 2;
            bodies[bodies.length - 2] = 1;
            bodies[bodies.length - 1] = 5;
            Check.due("it wraps", x.trace(), traceOf(bodies));
        }
        Check.tellCanal(x, THREE);
        Check.due("it stays", x.trace(), traceOf(bodies));
    }

    private static void fault() {
        Check.promise(27);
        WaterConsent x = Check.canalOf(THREE);
        Check.due("0 ahead of any", new WaterConsent().fault(), 0);
        Check.due("CAST", x.as(0, 2), Check.CAST);
        x.ofReach(9, 9);
        x.fill(9, 9);
        x.rain(9);
        x.gates();
        x.open(9);
        x.nights(99);
        x.boat(9, 9, 9);
        x.raise(0, 1, 0);
        x.reading(0, 99, true);
        x.back(99);
        x.limits(0);
        x.kinds(0);
        x.levels(9);
        x.odds(9, 9, 9);
        x.lose(0);
        x.tell(0);
        x.flatter(9);
        x.trace();
        x.many(9);
        Check.due("calls that name none leave it", x.fault(), 2);
        Check.due("it is told again", x.fault(), 2);
        x.put(9, 0, 0);
        Check.due("refused", x.fault(), 0);
        x.put(0, 0, 0);
        Check.due("NULL", x.fault(), 1);
        Check.due("sheet", x.sheet(0, 0, 2), 1);
        Check.due("none", x.fault(), 0);
        x.cell(0, 2, 0);
        Check.due("INDEX", x.fault(), 3);
        Check.due("a first fault of a text", x.canal(0, 0, 0, 2), -100);
        Check.due("none", x.fault(), 0);
        x.sheet(0, 0, -1);
        Check.due("SIZE", x.fault(), 4);
        x.fill(0, 0);
        x.put(0, 0, 0);
        Check.due("a silence", x.acts(0, 0, 0, 1, 0), -100);
        Check.due("none", x.fault(), 0);
        x.copy(0, 0, 1, 0, 0);
        Check.due("NULL", x.fault(), 1);
        Check.due("no act", x.acts(0, 0, 0, 41, 0), -2);
        Check.due("none", x.fault(), 0);
    }

    private static void many() {
        Check.promise(28);
        WaterConsent x = new WaterConsent();
        for (int what = 0; what < 4; what++) {
            Check.due("0 without a canal", x.many(what), 0);
        }
        Check.due("OUTSIDE: 4", x.many(4), -2);
        Check.due("OUTSIDE: -1", x.many(-1), -2);
        x = Check.canalOf("l3;m94;p93;s95;m99");
        x.reading(0, 0, true);
        x.reading(0, 0, true);
        Check.due("reaches", x.many(0), 4);
        Check.due("rain", x.many(1), 3);
        Check.due("levels", x.many(2), 36);
        Check.due("readings", x.many(3), 2);
        Check.due("OUTSIDE: 4", x.many(4), -2);
        Check.due("OUTSIDE: -1", x.many(-1), -2);
        Check.tellCanal(x, "l0;m10;m20");
        Check.due("reaches", x.many(0), 2);
        Check.due("rain", x.many(1), 0);
        Check.due("levels", x.many(2), 3);
        Check.due("readings", x.many(3), 0);
    }
}
