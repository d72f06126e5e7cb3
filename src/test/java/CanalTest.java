/** Promises 1 to 5: a new object, canal, ofReach, fill, rain. */
public final class CanalTest {
    private static final String FOUR = "l1;m14;p13;s05;m29";

    public static void main(String[] args) {
        newObject();
        canalTaken();
        canalFirstFaults();
        canalRefusals();
        canalMakesAnew();
        ofReach();
        fill();
        rain();
        Check.end();
    }

    private static void newObject() {
        Check.promise(1);
        WaterConsent x = new WaterConsent();
        Check.due("many(0)", x.many(0), 0);
        Check.due("gates()", x.gates(), -3);
        Check.due("fault()", x.fault(), 0);
        Check.due("trace()", x.trace(), 0);
        for (int k = 0; k < 4; k++) {
            Check.due("put in sheet " + k, x.put(k, 0, 1), Check.NULL);
            Check.due("lose " + k, x.lose(k), 0);
        }
        Check.due("ofReach(0, 0)", x.ofReach(0, 0), -1);
        WaterConsent other = Check.canalOf(FOUR);
        Check.due("the other's reaches", other.many(0), 4);
        Check.due("its own reaches", x.many(0), 0);
    }

    private static void canalTaken() {
        Check.promise(2);
        for (int lane = 0; lane < 3; lane++) {
            for (int reaches = 2; reaches <= 4; reaches++) {
                WaterConsent x = new WaterConsent();
                int n = 2 + 4 * reaches;
                int[] cells = new int[n + 7];
                System.arraycopy(Check.codes(FOUR), 0, cells, 5, n);
                Check.row(x, lane, lane, cells);
                Check.due("canal", x.canal(lane, lane, 5, n), reaches);
                Check.due("fault()", x.fault(), 0);
                Check.due("many(0)", x.many(0), reaches);
                Check.due("many(1)", x.many(1), 1);
                Check.due("ofReach(1, 0)", x.ofReach(1, 0), 1);
                Check.due("ofReach(1, 1)", x.ofReach(1, 1), 1);
                Check.due("ofReach(1, 2)", x.ofReach(1, 2), 3);
            }
        }
        Check.due("rain 0", Check.canalOf("l0;m00;m00").many(1), 0);
        Check.due("rain 3", Check.canalOf("l3;m99;s99").many(1), 3);
    }

    private static void canalFirstFaults() {
        String[] texts = {"", "l", "l1", "l1;", "l1;m", "l1;m1", "l1;m14", "l1;m14;", "l1;m14;p", "l1;m14;p1",
            "l1;m14;p13;", "l1;m14;p13;s", "l1;m14;p13;s0", "l1;m14;p13;s05;", "l1;m14;p13;s05;m2"};
        for (String text : texts) {
            firstFault(text, text.length());
        }
        firstFault("L1;m14;p13", 0);
        firstFault("x", 0);
        firstFault("l4;m14;p13", 1);
        firstFault("l/;m14;p13", 1);
        firstFault("l1:m14;p13", 2);
        firstFault("l1;n14;p13", 3);
        firstFault("l1;mx4;p13", 4);
        firstFault("l1;m1:;p13", 5);
        firstFault("l1;m1/;p13", 5);
        firstFault("l1;m14,p13", 6);
        firstFault("l1;m14;M13", 7);
        firstFault("l1;m14;p13x", 10);
        firstFault("l1;m14;p13;s05 ", 14);
        firstFault(FOUR + ";", 18);
        firstFault(FOUR + "x", 18);
        firstFault(FOUR + ";m11", 18);
        firstFault("l1;m14;p13;s05;m2x;", 17);
        WaterConsent x = new WaterConsent();
        int[] far = Check.codes("l1;m14;p13");
        far[0] = 108 + 256;
        Check.row(x, 0, 1, far);
        Check.due("a short that is no byte", x.canal(0, 1, 0, 10), -100);
        far[0] = 108;
        far[4] = 49 + 65536;
        Check.row(x, 0, 2, far);
        Check.due("an int that is no short", x.canal(0, 2, 0, 10), -104);
        Check.row(x, 0, 1, far);
        Check.due("the same, cut to a short", x.canal(0, 1, 0, 10), 2);
    }

    private static void firstFault(String text, int place) {
        WaterConsent x = Check.canalOf("l2;m35;s46;p78");
        x.reading(0, 0, true);
        long before = Check.state(x);
        Check.due("canal of '" + text + "'", Check.tellCanal(x, text), -100 - place);
        Check.due("fault() behind it", x.fault(), 0);
        Check.due("all as ahead of it", Check.state(x), before);
    }

    private static void canalRefusals() {
        WaterConsent x = Check.canalOf(FOUR);
        Check.row(x, 0, 0, Check.codes(FOUR));
        x.lose(1);
        long before = Check.state(x);
        Check.due("UNKNOWN ahead of OUTSIDE", x.canal(-1, 3, 0, 18), -1);
        Check.due("UNKNOWN", x.canal(4, 0, 0, 18), -1);
        Check.due("OUTSIDE: lane -1", x.canal(0, -1, 0, 18), -2);
        Check.due("OUTSIDE: lane 3 ahead of NULL", x.canal(1, 3, 0, 18), -2);
        Check.due("CAST ahead of SIZE", x.canal(0, 1, 0, -1), Check.CAST);
        Check.due("fault()", x.fault(), 2);
        Check.due("OUTSIDE clears", x.canal(0, 3, 0, 18), -2);
        Check.due("fault()", x.fault(), 0);
        Check.due("CAST ahead of INDEX", x.canal(0, 2, 99, 1), Check.CAST);
        for (int lane = 0; lane < 3; lane++) {
            Check.due("NULL ahead of SIZE, nothing is no CAST", x.canal(1, lane, 0, -1), Check.NULL);
        }
        Check.due("fault()", x.fault(), 1);
        Check.due("SIZE ahead of INDEX", x.canal(0, 0, -1, -1), Check.SIZE);
        Check.due("SIZE", x.canal(0, 0, 0, Integer.MIN_VALUE), Check.SIZE);
        Check.due("fault()", x.fault(), 4);
        Check.due("UNKNOWN clears", x.canal(4, 0, 0, 18), -1);
        Check.due("fault()", x.fault(), 0);
        Check.due("INDEX: i below 0", x.canal(0, 0, -1, 1), Check.INDEX);
        Check.due("INDEX: i below 0, none taken", x.canal(0, 0, -1, 0), Check.INDEX);
        Check.due("INDEX: one beyond", x.canal(0, 0, 1, 18), Check.INDEX);
        Check.due("INDEX: i beyond, none taken", x.canal(0, 0, 19, 0), Check.INDEX);
        Check.due("INDEX: i at the end, one taken", x.canal(0, 0, 18, 1), Check.INDEX);
        Check.due("INDEX: far beyond", x.canal(0, 0, Integer.MAX_VALUE, Integer.MAX_VALUE), Check.INDEX);
        Check.due("INDEX: a long row", x.canal(0, 0, 1, Integer.MAX_VALUE), Check.INDEX);
        Check.due("fault()", x.fault(), 3);
        Check.due("i at the end, none taken", x.canal(0, 0, 18, 0), -100);
        Check.due("fault()", x.fault(), 0);
        Check.due("all as ahead of it", Check.state(x), before);
    }

    private static void canalMakesAnew() {
        WaterConsent x = Check.canalOf(FOUR);
        Check.row(x, 0, 2, 70001);
        x.tell(0);
        x.reading(0, 1, true);
        x.fill(3, 9);
        Check.due("canal", Check.tellCanal(x, "l3;s12;p34"), 2);
        Check.due("readings", x.many(3), 0);
        Check.due("limits(0)", x.limits(0), 1023);
        Check.due("reaches", x.many(0), 2);
        Check.due("rain", x.many(1), 3);
        Check.due("levels", x.many(2), 4);
        Check.due("trace stays", x.trace(), 1);
        Check.due("a sheet stays", x.cell(0, 0, 2), 70001);
        Check.due("no third reach", x.ofReach(2, 1), -1);
        Check.due("no second gate", x.open(1), -1);
        Check.due("gates", x.gates(), 0);
    }

    private static void ofReach() {
        Check.promise(3);
        for (int limit = 0; limit <= 9; limit++) {
            WaterConsent x = Check.canalOf("l0;m3" + limit + ";p4" + limit + ";s5" + limit);
            int proud = limit == 0 ? 0 : limit - 1;
            int[] want = {limit, proud, proud / 2};
            for (int r = 0; r < 3; r++) {
                Check.due("kind", x.ofReach(r, 0), r);
                Check.due("level", x.ofReach(r, 1), 3 + r);
                Check.due("limit", x.ofReach(r, 2), limit);
                Check.due("want", x.ofReach(r, 3), want[r]);
            }
            Check.due("UNKNOWN", x.ofReach(3, 0), -1);
        }
        WaterConsent x = Check.canalOf("l0;m34;p45");
        Check.due("UNKNOWN ahead of OUTSIDE", x.ofReach(2, 4), -1);
        Check.due("UNKNOWN: -1", x.ofReach(-1, 0), -1);
        Check.due("OUTSIDE: 4", x.ofReach(1, 4), -2);
        Check.due("OUTSIDE: -1", x.ofReach(0, -1), -2);
    }

    private static void fill() {
        Check.promise(4);
        WaterConsent x = Check.canalOf("l0;m34;p45;s56");
        Check.due("fill(1, 9)", x.fill(1, 9), 4);
        Check.due("fill(1, 0)", x.fill(1, 0), 9);
        Check.due("level", x.ofReach(1, 1), 0);
        Check.due("another's level", x.ofReach(0, 1), 3);
        Check.due("limit", x.ofReach(1, 2), 5);
        Check.due("UNKNOWN ahead of OUTSIDE", x.fill(3, 10), -1);
        Check.due("UNKNOWN: -1", x.fill(-1, 0), -1);
        Check.due("OUTSIDE: 10", x.fill(1, 10), -2);
        Check.due("OUTSIDE: -1", x.fill(1, -1), -2);
        Check.due("level stays", x.ofReach(1, 1), 0);
        Check.due("UNKNOWN without a canal", new WaterConsent().fill(0, 0), -1);
    }

    private static void rain() {
        Check.promise(5);
        WaterConsent x = Check.canalOf("l1;m34;p45");
        Check.due("rain(3)", x.rain(3), 1);
        Check.due("rain(0)", x.rain(0), 3);
        Check.due("many(1)", x.many(1), 0);
        Check.due("OUTSIDE: 4", x.rain(4), -2);
        Check.due("OUTSIDE: -1", x.rain(-1), -2);
        Check.due("rain stays", x.many(1), 0);
        WaterConsent none = new WaterConsent();
        Check.due("OUTSIDE ahead of STATE", none.rain(4), -2);
        Check.due("STATE", none.rain(3), -3);
        Check.due("many(1)", none.many(1), 0);
    }
}
