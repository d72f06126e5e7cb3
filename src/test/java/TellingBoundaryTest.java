/** Promises 23 to 28, TELLING, TRACE, FAULTS and counts: each sentence with a boundary has a test of its own. */
public final class TellingBoundaryTest {
    private static final String THREE = "l1;m14;p13;s05";
    private static final int LEAST = Boundaries.LEAST, GREATEST = Boundaries.GREATEST;

    public static void main(String[] args) {
        Boundaries.run(TellingBoundaryTest.class);
    }

    private static void faultIs(WaterConsent x, String call, int answer, int due) {
        Check.due(call, answer, due);
        Check.due("fault() behind " + call, x.fault(), due <= -11 && due >= -14 ? -10 - due : 0);
    }

    // ---- promise 23: tell

    static void promise23_limitsOf0And9() {
        WaterConsent x = Check.canalOf("l0;m90;p90;s90");
        Check.due("mild of 0", x.tell(0), 0);
        Check.due("proud of 0", x.tell(1), 100);
        Check.due("sulky of 0", x.tell(2), 100);
        x = Check.canalOf("l0;m09;p09;s09");
        Check.due("mild of 9", x.tell(0), 9);
        Check.due("proud of 9", x.tell(1), 109);
        Check.due("sulky of 9", x.tell(2), 118);
    }

    static void promise23_trace_eachBodyAsItBegins() {
        WaterConsent x = Check.canalOf(THREE);
        x.tell(0);
        Check.due("mild: 1", x.trace(), 1);
        x = Check.canalOf(THREE);
        x.tell(1);
        Check.due("proud: 2 1", x.trace(), 2 * 31 + 1);
        x = Check.canalOf(THREE);
        x.tell(2);
        Check.due("sulky: 3 2 1 1", x.trace(), ((3 * 31 + 2) * 31 + 1) * 31 + 1);
    }

    static void promise23_unknown_reachesAndTraceStays() {
        WaterConsent x = Check.canalOf(THREE);
        x.tell(0);
        for (int r : new int[] {-1, 3, LEAST, GREATEST}) {
            Check.due("reach " + r, x.tell(r), -1);
            Check.due("trace", x.trace(), 1);
        }
        WaterConsent none = new WaterConsent();
        Check.due("without a canal", none.tell(0), -1);
        Check.due("trace", none.trace(), 0);
    }

    // ---- promise 24: flatter

    static void promise24_firstAndLastReach() {
        WaterConsent x = Check.canalOf("l0;m00;m00;p00;p00");
        Check.due("the first", x.flatter(0), 0);
        Check.due("the last", x.flatter(3), 3);
        Check.due("trace", x.trace(), 4 * 31 + 4);
        x = Check.canalOf("l0;s00;m00;p00;s99");
        Check.due("the first, sulky", x.flatter(0), 70);
        Check.due("the last, sulky", x.flatter(3), 70);
        Check.due("trace", x.trace(), 5 * 31 + 5);
    }

    static void promise24_unknown_reachesAndTraceStays() {
        WaterConsent x = Check.canalOf(THREE);
        x.flatter(0);
        for (int r : new int[] {-1, 3, LEAST, GREATEST}) {
            Check.due("reach " + r, x.flatter(r), -1);
            Check.due("trace", x.trace(), 4);
        }
        WaterConsent none = new WaterConsent();
        Check.due("without a canal", none.flatter(0), -1);
        Check.due("trace", none.trace(), 0);
    }

    // ---- promise 25: as

    static void promise25_cast_itIsNone() {
        for (int r = 0; r < 3; r++) {
            for (int kind = 0; kind < 3; kind++) {
                WaterConsent x = Check.canalOf(THREE);
                faultIs(x, "kind " + r + " as " + kind, x.as(r, kind), kind <= r ? 1 : Check.CAST);
            }
        }
    }

    static void promise25_outside_kindsFrom0To2() {
        WaterConsent x = Check.canalOf(THREE);
        for (int kind : new int[] {-1, 3, LEAST, GREATEST}) {
            x.as(0, 2);
            faultIs(x, "kind " + kind, x.as(2, kind), -2);
        }
        faultIs(x, "kind 0", x.as(2, 0), 1);
        faultIs(x, "kind 2", x.as(2, 2), 1);
    }

    static void promise25_outsideAheadOfCast() {
        WaterConsent x = Check.canalOf(THREE);
        faultIs(x, "a mild one as 3", x.as(0, 3), -2);
    }

    static void promise25_unknown_reaches() {
        WaterConsent x = Check.canalOf(THREE);
        for (int r : new int[] {-1, 3, LEAST, GREATEST}) {
            x.as(0, 2);
            faultIs(x, "reach " + r, x.as(r, 0), -1);
        }
        faultIs(x, "the last", x.as(2, 0), 1);
        x = new WaterConsent();
        x.put(0, 0, 0);
        faultIs(x, "without a canal", x.as(0, 0), -1);
    }

    static void promise25_unknownAheadOfOutside() {
        WaterConsent x = Check.canalOf(THREE);
        faultIs(x, "3, 3", x.as(3, 3), -1);
        faultIs(x, "-1, -1", x.as(-1, -1), -1);
    }

    // ---- promise 26: trace

    static void promise26_wrapsAtTheEighthBody() {
        WaterConsent x = Check.canalOf(THREE);
        int[] due = {1, 32, 993, 30784, 954305, 29583456, 917087137, -1635069824, 852443009, 655929504};
        for (int k = 0; k < due.length; k++) {
            x.tell(0);
            Check.due("behind " + (k + 1), x.trace(), due[k]);
        }
    }

    static void promise26_wrapsWithinOneCall() {
        WaterConsent x = Check.canalOf(THREE);
        for (int k = 0; k < 6; k++) {
            x.tell(0);
        }
        Check.due("behind six mild ones", x.trace(), 29583456);
        x.tell(2);
        Check.due("and a sulky one", x.trace(), (((29583456 * 31 + 3) * 31 + 2) * 31 + 1) * 31 + 1);
    }

    static void promise26_askedTwiceTheSame() {
        WaterConsent x = Check.canalOf(THREE);
        x.flatter(2);
        Check.due("once", x.trace(), 5);
        Check.due("twice", x.trace(), 5);
    }

    // ---- promise 27: fault

    /** An object with a canal, whose latest call that names FAULTS came to one of them. */
    private static WaterConsent withFault(int fault) {
        WaterConsent x = Check.canalOf(THREE);
        Check.row(x, 0, 0, 2);
        int[] answers = {x.put(0, 0, 2), fault == 1 ? x.put(3, 0, 0) : 0, fault == 2 ? x.as(0, 2) : 0,
            fault == 3 ? x.put(0, 1, 0) : 0, fault == 4 ? x.sheet(1, 0, -1) : 0};
        Check.due("a call that comes to " + fault, answers[fault], fault == 0 ? 1 : -10 - fault);
        Check.due("fault()", x.fault(), fault);
        return x;
    }

    static void promise27_0AheadOfAny() {
        Check.due("a new object", new WaterConsent().fault(), 0);
    }

    static void promise27_eachFaultAndToldAgain() {
        for (int fault = 0; fault <= 4; fault++) {
            WaterConsent x = withFault(fault);
            Check.due("again", x.fault(), fault);
            Check.due("and again", x.fault(), fault);
        }
    }

    static void promise27_0ByACallThatComesToNone() {
        for (int fault = 1; fault <= 4; fault++) {
            WaterConsent x = withFault(fault);
            faultIs(x, "canal, a first fault", x.canal(0, 0, 0, 0), -100);
            x = withFault(fault);
            Check.due("canal", Check.tellCanal(x, THREE), 3);
            Check.due("fault()", x.fault(), 0);
            x = withFault(fault);
            faultIs(x, "acts", x.acts(0, 0, 0, 1, 1), -9);
            x = withFault(fault);
            faultIs(x, "sheet", x.sheet(0, 0, 1), 1);
            x = withFault(fault);
            faultIs(x, "put", x.put(0, 0, 1), 1);
            x = withFault(fault);
            Check.due("cell", x.cell(0, 0, 0), 2);
            Check.due("fault()", x.fault(), 0);
            x = withFault(fault);
            faultIs(x, "copy", x.copy(0, 0, 0, 0, 1), 1);
            x = withFault(fault);
            faultIs(x, "as", x.as(0, 0), 1);
        }
    }

    static void promise27_0ByACallThatIsRefused() {
        for (int fault = 1; fault <= 4; fault++) {
            WaterConsent x = withFault(fault);
            faultIs(x, "canal, UNKNOWN", x.canal(4, 0, 0, 0), -1);
            x = withFault(fault);
            faultIs(x, "canal, OUTSIDE", x.canal(0, 3, 0, 0), -2);
            x = withFault(fault);
            faultIs(x, "acts, UNKNOWN", x.acts(4, 0, 0, 1, 1), -1);
            x = withFault(fault);
            faultIs(x, "acts, OUTSIDE", x.acts(0, 0, 0, 41, 1), -2);
            x = withFault(fault);
            x.put(0, 0, 3);
            x.as(0, 2);
            faultIs(x, "acts, no act", x.acts(0, 0, 0, 1, 1), -2);
            x = withFault(fault);
            faultIs(x, "sheet, UNKNOWN", x.sheet(4, 0, 1), -1);
            x = withFault(fault);
            faultIs(x, "sheet, OUTSIDE", x.sheet(0, 0, 61), -2);
            x = withFault(fault);
            faultIs(x, "put, UNKNOWN", x.put(4, 0, 1), -1);
            x = withFault(fault);
            Check.due("cell, UNKNOWN", x.cell(4, 0, 0), Check.LOST);
            Check.due("fault()", x.fault(), 0);
            x = withFault(fault);
            Check.due("cell, OUTSIDE", x.cell(0, 0, 3), Check.LOST);
            Check.due("fault()", x.fault(), 0);
            x = withFault(fault);
            faultIs(x, "copy, UNKNOWN", x.copy(0, 0, 4, 0, 1), -1);
            x = withFault(fault);
            faultIs(x, "as, UNKNOWN", x.as(4, 0), -1);
            x = withFault(fault);
            faultIs(x, "as, OUTSIDE", x.as(0, 3), -2);
        }
    }

    static void promise27_0ByActsRefusedWithState() {
        WaterConsent x = new WaterConsent();
        Check.due("NULL", x.put(0, 0, 0), Check.NULL);
        faultIs(x, "acts, STATE", x.acts(0, 0, 0, 0, 0), -3);
    }

    static void promise27_0ByActsWithASilence() {
        WaterConsent x = Check.canalOf("l0;m00;m09");
        Check.row(x, 0, 0, 0);
        x.as(0, 2);
        faultIs(x, "a silence", x.acts(0, 0, 0, 1, 0), -100);
    }

    static void promise27_staysByCallsThatNameNoFaults() {
        for (int fault = 1; fault <= 4; fault++) {
            WaterConsent x = withFault(fault);
            long[] answers = {x.ofReach(0, 0), x.fill(0, 1), x.rain(1), x.gates(), x.open(0), x.nights(1),
                x.boat(0, 1, 0), x.raise(0, 1, 0), x.reading(0, 0, true), x.back(1), x.limits(0), x.kinds(0),
                x.levels(0), x.odds(1, 1, 0), x.lose(2), x.tell(0), x.flatter(0), x.trace(), x.many(0)};
            Check.due("calls", answers.length, 19);
            Check.due("fault()", x.fault(), fault);
        }
    }

    static void promise27_staysByRefusedCallsThatNameNoFaults() {
        for (int fault = 1; fault <= 4; fault++) {
            WaterConsent x = withFault(fault);
            long[] answers = {x.ofReach(9, 0), x.fill(9, 1), x.rain(9), x.open(9), x.nights(41), x.boat(9, 1, 0),
                x.raise(9, 1, 0), x.reading(9, 0, true), x.back(9), x.limits(9), x.kinds(9), x.levels(9),
                x.odds(9, 1, 0), x.lose(9), x.tell(9), x.flatter(9), x.many(9)};
            for (long answer : answers) {
                Check.due("refused", answer == -1 || answer == -2 || answer == Check.LOST ? 1 : 0, 1);
            }
            Check.due("fault()", x.fault(), fault);
        }
    }

    // ---- promise 28: many

    static void promise28_0AllWithoutACanal() {
        WaterConsent x = new WaterConsent();
        x.sheet(0, 0, 10);
        x.reading(0, 0, true);
        x.rain(3);
        for (int what = 0; what < 4; what++) {
            Check.due("what " + what, x.many(what), 0);
        }
    }

    static void promise28_outside_whatFrom0To3() {
        WaterConsent x = Check.canalOf("l2;m14;p13;s05");
        x.reading(0, 0, true);
        int[] due = {3, 2, 2, 1};
        for (int what = 0; what < 4; what++) {
            Check.due("what " + what, x.many(what), due[what]);
        }
        for (int what : new int[] {-1, 4, LEAST, GREATEST}) {
            Check.due("what " + what, x.many(what), -2);
            Check.due("what " + what + ", without a canal", new WaterConsent().many(what), -2);
        }
    }

    static void promise28_leastAndMost() {
        WaterConsent x = Check.canalOf("l0;m00;m00");
        Check.due("two reaches", x.many(0), 2);
        Check.due("no rain", x.many(1), 0);
        Check.due("no levels", x.many(2), 0);
        Check.due("no readings", x.many(3), 0);
        x = Check.canalOf("l3;m90;p90;s90;m90");
        for (int k = 0; k < 9; k++) {
            x.reading(0, 0, true);
        }
        Check.due("four reaches", x.many(0), 4);
        Check.due("rain 3", x.many(1), 3);
        Check.due("levels 36", x.many(2), 36);
        Check.due("readings 8", x.many(3), 8);
    }
}
