/** Promises 6 to 9: gates, open, nights, acts. */
public final class ActsTest {
    private static final String FOUR = "l1;m14;p13;s05;m29";

    public static void main(String[] args) {
        gates();
        open();
        nights();
        actsAnswers();
        actsSilence();
        actsRefusals();
        Check.end();
    }

    private static void gates() {
        Check.promise(6);
        Check.due("STATE", new WaterConsent().gates(), -3);
        Check.due("gates of four", Check.canalOf(FOUR).gates(), 3);
        Check.due("all gates", Check.canalOf("l0;m19;m19;m19;m19").gates(), 7);
        Check.due("none has a level", Check.canalOf("l0;m09;m09;m09").gates(), 0);
        Check.due("the last alone", Check.canalOf("l0;m09;m19;m09").gates(), 2);
        Check.due("level at the want", Check.canalOf("l0;m90;m44").gates(), 0);
        Check.due("level below the want", Check.canalOf("l0;m90;m34").gates(), 1);
        Check.due("a proud one at its want", Check.canalOf("l0;m90;p34").gates(), 0);
        Check.due("a proud one below it", Check.canalOf("l0;m90;p24").gates(), 1);
        Check.due("a sulky one at its want", Check.canalOf("l0;m90;s14").gates(), 0);
        Check.due("a sulky one below it", Check.canalOf("l0;m90;s04").gates(), 1);
        Check.due("a proud one of limit 0", Check.canalOf("l0;m90;p00").gates(), 0);
    }

    private static void open() {
        Check.promise(7);
        WaterConsent x = Check.canalOf(FOUR);
        Check.due("open(0)", x.open(0), 2);
        Check.due("the one above", x.ofReach(0, 1), 0);
        Check.due("the one below", x.ofReach(1, 1), 2);
        Check.due("STATE", x.open(0), -3);
        Check.due("levels stay", x.many(2), 4);
        Check.due("open(1)", x.open(1), 1);
        Check.due("open(2)", x.open(2), 3);
        Check.due("UNKNOWN: 3", x.open(3), -1);
        Check.due("UNKNOWN: -1", x.open(-1), -1);
        Check.due("UNKNOWN: the greatest", x.open(Integer.MAX_VALUE), -1);
        Check.due("UNKNOWN without a canal", new WaterConsent().open(0), -1);
        Check.due("STATE: it does not consent", Check.canalOf("l0;m90;m44").open(0), -3);
        Check.due("a first reach needs no consent", Check.canalOf("l0;m90;m34").open(0), 4);
    }

    private static void nights() {
        Check.promise(8);
        WaterConsent x = Check.canalOf("l2;m14;p13;m29");
        Check.due("nights(0)", x.nights(0), 1);
        Check.due("nights(1)", x.nights(1), 3);
        Check.due("the last one", x.ofReach(2, 1), 1);
        Check.due("the one between", x.ofReach(1, 1), 1);
        Check.due("nights(3): 9 at most", x.nights(3), 9);
        Check.due("the last one: 0 at least", x.ofReach(2, 1), 0);
        x.fill(0, 0);
        x.rain(0);
        Check.due("nights(40) without rain", x.nights(40), 0);
        Check.due("OUTSIDE: 41", x.nights(41), -2);
        Check.due("OUTSIDE: -1", x.nights(-1), -2);
        Check.due("OUTSIDE ahead of STATE", new WaterConsent().nights(41), -2);
        Check.due("STATE", new WaterConsent().nights(40), -3);
    }

    private static void actsAnswers() {
        Check.promise(9);
        WaterConsent x = Check.canalOf(FOUR);
        long before = Check.state(x);
        for (int lane = 0; lane < 3; lane++) {
            Check.row(x, lane, lane, 99, 0, 1, 3, 3, 0);
            Check.due("together", x.acts(lane, lane, 1, 5, 0), 4);
            Check.due("no silence", x.acts(lane, lane, 1, 5, 1), -9);
            Check.due("openings", x.acts(lane, lane, 1, 5, 2), 3);
            Check.due("gates", x.acts(lane, lane, 1, 5, 3), 6);
            Check.due("level 0", x.acts(lane, lane, 1, 5, 10), 1);
            Check.due("level 1", x.acts(lane, lane, 1, 5, 11), 2);
            Check.due("level 2", x.acts(lane, lane, 1, 5, 12), 1);
            Check.due("level 3", x.acts(lane, lane, 1, 5, 13), 0);
            Check.due("no acts", x.acts(lane, lane, 6, 0, 0), 4);
        }
        Check.due("nothing is changed", Check.state(x), before);
        Check.due("a canal of two", Check.tellCanal(x, "l1;m24;p13"), 2);
        Check.row(x, 0, 0, 0, 1);
        Check.due("NONE: no reach 2", x.acts(0, 0, 0, 2, 12), -9);
        Check.due("NONE: no reach 3", x.acts(0, 0, 0, 2, 13), -9);
        Check.due("level 1", x.acts(0, 0, 0, 2, 11), 1);
        int[] nights = new int[41];
        java.util.Arrays.fill(nights, 1);
        Check.row(x, 0, 0, nights);
        Check.due("40 nights", x.acts(0, 0, 0, 40, 0), 9);
    }

    private static void actsSilence() {
        WaterConsent x = Check.canalOf(FOUR);
        long before = Check.state(x);
        Check.row(x, 0, 0, 3, 0, 1, 2, 0, 1, 1, 1, 1);
        Check.due("its place", x.acts(0, 0, 0, 9, 1), 7);
        for (int what : new int[] {0, 2, 3, 10, 11, 12, 13}) {
            Check.due("what " + what, x.acts(0, 0, 0, 9, what), -107);
        }
        Check.due("fault()", x.fault(), 0);
        Check.due("its place in the row told", x.acts(0, 0, 2, 5, 1), 4);
        Check.row(x, 0, 0, 2, 0, 0);
        Check.due("the first of two", x.acts(0, 0, 0, 3, 0), -100);
        Check.due("nothing is changed", Check.state(x), before);
        Check.tellCanal(x, "l1;m04;p13");
        Check.row(x, 0, 0, 0);
        Check.due("silence, though there is no reach 3", x.acts(0, 0, 0, 1, 13), -100);
    }

    private static void actsRefusals() {
        WaterConsent none = new WaterConsent();
        Check.due("UNKNOWN ahead of OUTSIDE", none.acts(4, 3, 0, 41, 4), -1);
        Check.due("UNKNOWN", none.acts(-1, 0, 0, 0, 0), -1);
        Check.due("OUTSIDE ahead of STATE: lane", none.acts(0, 3, 0, 0, 0), -2);
        Check.due("OUTSIDE ahead of STATE: n", none.acts(0, 0, 0, 41, 0), -2);
        Check.due("OUTSIDE ahead of STATE: what", none.acts(0, 0, 0, 0, 4), -2);
        Check.due("STATE ahead of NULL", none.acts(0, 0, 0, 0, 0), -3);
        Check.row(none, 0, 0, 9);
        Check.due("STATE ahead of CAST", none.acts(0, 1, 0, 1, 0), -3);
        Check.due("STATE ahead of INDEX", none.acts(0, 0, 0, 2, 0), -3);

        WaterConsent x = Check.canalOf("l1;m24;p13;m11");
        Check.row(x, 0, 1, 2, 3, -1, 2);
        Check.due("OUTSIDE: lane -1", x.acts(0, -1, 0, 1, 0), -2);
        Check.due("OUTSIDE: n -1, no SIZE", x.acts(0, 1, 0, -1, 0), -2);
        for (int what : new int[] {-1, 4, 9, 14, Integer.MIN_VALUE, Integer.MAX_VALUE}) {
            Check.due("OUTSIDE: what " + what, x.acts(0, 1, 0, 1, what), -2);
        }
        Check.due("CAST ahead of INDEX", x.acts(0, 2, 9, 1, 0), Check.CAST);
        Check.due("fault()", x.fault(), 2);
        Check.due("NULL ahead of INDEX", x.acts(1, 0, -1, 1, 0), Check.NULL);
        Check.due("fault()", x.fault(), 1);
        Check.due("OUTSIDE clears", x.acts(0, 1, 0, 41, 0), -2);
        Check.due("fault()", x.fault(), 0);
        Check.due("INDEX ahead of no act", x.acts(0, 1, 1, 4, 0), Check.INDEX);
        Check.due("fault()", x.fault(), 3);
        Check.due("INDEX: none taken, below", x.acts(0, 1, -1, 0, 0), Check.INDEX);
        Check.due("INDEX: none taken, beyond", x.acts(0, 1, 5, 0, 0), Check.INDEX);
        Check.due("none taken, at the end", x.acts(0, 1, 4, 0, 0), 4);
        Check.due("OUTSIDE: act 3 of 2 gates", x.acts(0, 1, 0, 2, 0), -2);
        Check.due("fault()", x.fault(), 0);
        Check.due("OUTSIDE: act -1", x.acts(0, 1, 2, 1, 1), -2);
        Check.due("a night, as many as gates", x.acts(0, 1, 3, 1, 10), 3);
        Check.row(x, 0, 1, 1, 1, 1, 1, 9);
        Check.due("OUTSIDE ahead of a silence", x.acts(0, 1, 0, 5, 1), -2);
        Check.due("the silence", x.acts(0, 1, 0, 4, 1), 0);
    }
}
