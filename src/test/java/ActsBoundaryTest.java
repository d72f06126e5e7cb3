/** Promises 6 to 9, and what the terms tell of ACTS: each sentence with a boundary has a test of its own. */
public final class ActsBoundaryTest {
    private static final String TWO = "l1;m14;p13", THREE = "l1;m14;p13;s05", FOUR = "l1;m14;p13;s05;m29";
    private static final int LEAST = Boundaries.LEAST, GREATEST = Boundaries.GREATEST;
    private static final int NONE = -9;

    public static void main(String[] args) {
        Boundaries.run(ActsBoundaryTest.class);
    }

    // ---- promise 6: gates

    static void promise6_state_withoutACanal() {
        Check.due("a new object", new WaterConsent().gates(), -3);
        WaterConsent x = new WaterConsent();
        Check.due("a text that is not taken", Check.tellCanal(x, "l1;m14"), -106);
        Check.due("behind it", x.gates(), -3);
    }

    static void promise6_set_emptyAndFull() {
        Check.due("two reaches, none", Check.canalOf("l0;m09;m09").gates(), 0);
        Check.due("two reaches, all", Check.canalOf("l0;m19;m09").gates(), 1);
        Check.due("three reaches, none", Check.canalOf("l0;m09;m09;m09").gates(), 0);
        Check.due("three reaches, all", Check.canalOf("l0;m19;m19;m09").gates(), 3);
        Check.due("four reaches, none", Check.canalOf("l0;m09;m09;m09;m09").gates(), 0);
        Check.due("four reaches, all", Check.canalOf("l0;m19;m19;m19;m09").gates(), 7);
    }

    static void promise6_set_eachGateAlone() {
        Check.due("gate 0", Check.canalOf("l0;m19;m09;m09;m09").gates(), 1);
        Check.due("gate 1", Check.canalOf("l0;m09;m19;m09;m09").gates(), 2);
        Check.due("gate 2", Check.canalOf("l0;m09;m09;m19;m09").gates(), 4);
        Check.due("none below the last reach", Check.canalOf("l0;m09;m09;m09;m19").gates(), 0);
    }

    static void promise6_mayBeOpened_theOneAboveHasALevelOf1AtLeast() {
        Check.due("level 0", Check.canalOf("l0;m09;m01").gates(), 0);
        Check.due("level 1", Check.canalOf("l0;m19;m01").gates(), 1);
        Check.due("level 9", Check.canalOf("l0;m99;m01").gates(), 1);
    }

    /** Whether the gate may be opened to a reach of a kind, a limit and a level. */
    private static int gateTo(char kind, int limit, int level) {
        return Check.canalOf("l0;m10;" + kind + level + limit).gates();
    }

    static void promise6_consents_ifItsLevelIsBelowItsWant() {
        for (int limit = 0; limit <= 9; limit++) {
            int proud = limit == 0 ? 0 : limit - 1;
            for (int level = 0; level <= 9; level++) {
                Check.due("m " + level + limit, gateTo('m', limit, level), level < limit ? 1 : 0);
                Check.due("p " + level + limit, gateTo('p', limit, level), level < proud ? 1 : 0);
                Check.due("s " + level + limit, gateTo('s', limit, level), level < proud / 2 ? 1 : 0);
            }
        }
    }

    static void promise6_consents_notOneThatWants0() {
        Check.due("a mild one of limit 0", gateTo('m', 0, 0), 0);
        Check.due("a mild one of limit 1", gateTo('m', 1, 0), 1);
        Check.due("a proud one of limit 0", gateTo('p', 0, 0), 0);
        Check.due("a proud one of limit 1", gateTo('p', 1, 0), 0);
        Check.due("a proud one of limit 2", gateTo('p', 2, 0), 1);
        Check.due("a sulky one of limit 2", gateTo('s', 2, 0), 0);
        Check.due("a sulky one of limit 3", gateTo('s', 3, 0), 1);
    }

    static void promise6_consents_theOneAboveIsNotAsked() {
        Check.due("the one above is beyond its want", Check.canalOf("l0;s90;m01").gates(), 1);
    }

    // ---- promise 7: open

    static void promise7_unknown_gatesAreOneLessThanReaches() {
        String[] texts = {"l0;m19;m19", "l0;m19;m19;m19", "l0;m19;m19;m19;m19"};
        for (int t = 0; t < texts.length; t++) {
            int gates = t + 1;
            WaterConsent x = Check.canalOf(texts[t]);
            Check.due("gate -1", x.open(-1), -1);
            Check.due("as many as there are", x.open(gates), -1);
            Check.due("one more", x.open(gates + 1), -1);
            Check.due("the least", x.open(LEAST), -1);
            Check.due("the greatest", x.open(GREATEST), -1);
            Check.due("levels stay", x.many(2), gates + 1);
            Check.due("the last gate", x.open(gates - 1), 2);
            Check.due("gate 0", Check.canalOf(texts[t]).open(0), 2);
        }
        Check.due("without a canal", new WaterConsent().open(0), -1);
    }

    static void promise7_state_theOneAboveHasLevel0() {
        WaterConsent x = Check.canalOf("l0;m09;m09");
        Check.due("level 0", x.open(0), -3);
        Check.due("levels stay", x.many(2), 0);
        x.fill(0, 1);
        Check.due("level 1", x.open(0), 1);
        Check.due("the one above has 0 then", x.ofReach(0, 1), 0);
        Check.due("level 0 again", x.open(0), -3);
    }

    static void promise7_state_theOneBelowDoesNotConsent() {
        WaterConsent x = Check.canalOf("l0;m90;p35");
        Check.due("one below its want", x.open(0), 4);
        Check.due("at its want", x.open(0), -3);
        Check.due("the one above stays", x.ofReach(0, 1), 8);
        Check.due("the one below stays", x.ofReach(1, 1), 4);
        x.fill(1, 9);
        Check.due("above its want", x.open(0), -3);
    }

    static void promise7_levelOfTheReachBelow_1To9() {
        Check.due("from 0", Check.canalOf("l0;m99;m09").open(0), 1);
        Check.due("from 8", Check.canalOf("l0;m99;m89").open(0), 9);
        Check.due("from 9", Check.canalOf("l0;m99;m99").open(0), -3);
    }

    static void promise7_othersStay() {
        WaterConsent x = Check.canalOf("l0;m59;m59;m59;m59");
        Check.due("gate 1", x.open(1), 6);
        int[] due = {5, 4, 6, 5};
        for (int r = 0; r < 4; r++) {
            Check.due("reach " + r, x.ofReach(r, 1), due[r]);
        }
    }

    // ---- promise 8: nights

    static void promise8_outside_nFrom0To40() {
        WaterConsent x = Check.canalOf("l1;m09;m99");
        for (int n : new int[] {-1, 41, LEAST, GREATEST}) {
            Check.due("n " + n, x.nights(n), -2);
        }
        Check.due("levels stay", x.many(2), 9);
        Check.due("n 0", x.nights(0), 0);
        Check.due("levels stay", x.many(2), 9);
        Check.due("n 40", x.nights(40), 9);
        Check.due("the last one", x.ofReach(1, 1), 0);
    }

    static void promise8_outsideAheadOfState() {
        Check.due("n -1", new WaterConsent().nights(-1), -2);
        Check.due("n 41", new WaterConsent().nights(41), -2);
    }

    static void promise8_state_withoutACanal() {
        Check.due("n 0", new WaterConsent().nights(0), -3);
        Check.due("n 40", new WaterConsent().nights(40), -3);
    }

    static void promise8_night_9AtMost() {
        for (int level = 0; level <= 9; level++) {
            for (int rain = 0; rain <= 3; rain++) {
                WaterConsent x = Check.canalOf("l" + rain + ";m" + level + "0;m00");
                Check.due("level " + level + " rain " + rain, x.nights(1), Math.min(9, level + rain));
            }
        }
        Check.due("8 nights of 1", Check.canalOf("l1;m00;m00").nights(8), 8);
        Check.due("9 nights of 1", Check.canalOf("l1;m00;m00").nights(9), 9);
        Check.due("10 nights of 1", Check.canalOf("l1;m00;m00").nights(10), 9);
    }

    static void promise8_night_0AtLeast() {
        for (int level = 0; level <= 9; level++) {
            WaterConsent x = Check.canalOf("l0;m00;m" + level + "0");
            x.nights(1);
            Check.due("level " + level, x.ofReach(1, 1), level == 0 ? 0 : level - 1);
            x.nights(level);
            Check.due("so many nights more", x.ofReach(1, 1), 0);
        }
    }

    static void promise8_night_rainBeyondTheLimitToo() {
        Check.due("limit 0", Check.canalOf("l3;s00;m00").nights(1), 3);
    }

    static void promise8_night_firstAndLastAlone() {
        WaterConsent x = Check.canalOf("l2;m39;m39;m39;m39");
        Check.due("one night", x.nights(1), 5);
        int[] due = {5, 3, 3, 2};
        for (int r = 0; r < 4; r++) {
            Check.due("reach " + r, x.ofReach(r, 1), due[r]);
        }
        x = Check.canalOf("l2;m39;m39;m39");
        x.nights(1);
        Check.due("the one between stays", x.ofReach(1, 1), 3);
        Check.due("the last of three", x.ofReach(2, 1), 2);
    }

    // ---- promise 9: acts, what is answered

    /** The row in sheet 0, as bytes. */
    private static WaterConsent withActs(String canal, int... acts) {
        WaterConsent x = Check.canalOf(canal);
        Check.row(x, 0, 0, acts);
        return x;
    }

    private static int[] rowOf(int n, int act) {
        int[] row = new int[n];
        java.util.Arrays.fill(row, act);
        return row;
    }

    static void promise9_noActs_allAsItIsNow() {
        WaterConsent x = withActs(FOUR);
        int[] due = {4, NONE, 0, 3, 1, 1, 0, 2};
        for (int k = 0; k < 8; k++) {
            int what = k < 4 ? k : k + 6;
            Check.due("what " + what, x.acts(0, 0, 0, 0, what), due[k]);
        }
    }

    static void promise9_outside_nFrom0To40() {
        WaterConsent x = withActs(TWO, rowOf(60, 1));
        for (int n : new int[] {-1, 41, 60, LEAST, GREATEST}) {
            Check.due("n " + n, x.acts(0, 0, 0, n, 0), -2);
            Check.due("fault() of n " + n, x.fault(), 0);
        }
        Check.due("n 0", x.acts(0, 0, 0, 0, 0), 2);
        Check.due("n 1", x.acts(0, 0, 0, 1, 0), 2);
        Check.due("n 40", x.acts(0, 0, 0, 40, 0), 9);
        Check.due("n 40 from the last place", x.acts(0, 0, 20, 40, 0), 9);
        Check.due("n 40 from one behind", x.acts(0, 0, 21, 40, 0), Check.INDEX);
    }

    static void promise9_outside_whatFrom0To3And10To13() {
        WaterConsent x = withActs(FOUR, 3);
        for (int what : new int[] {LEAST, -1, 4, 9, 14, GREATEST}) {
            Check.due("what " + what, x.acts(0, 0, 0, 1, what), -2);
            Check.due("fault() of what " + what, x.fault(), 0);
        }
        int[] taken = {0, 1, 2, 3, 10, 11, 12, 13};
        int[] due = {4, NONE, 0, 3, 2, 1, 0, 1};
        for (int k = 0; k < taken.length; k++) {
            Check.due("what " + taken[k], x.acts(0, 0, 0, 1, taken[k]), due[k]);
        }
    }

    static void promise9_outside_whatOfReachesIsTakenThoughThereAreFewer() {
        WaterConsent x = withActs(TWO, 1);
        Check.due("what 11", x.acts(0, 0, 0, 1, 11), 0);
        Check.due("what 12", x.acts(0, 0, 0, 1, 12), NONE);
        Check.due("what 13", x.acts(0, 0, 0, 1, 13), NONE);
        Check.due("what 14", x.acts(0, 0, 0, 1, 14), -2);
        x = withActs(THREE, 2);
        Check.due("what 12 of three", x.acts(0, 0, 0, 1, 12), 0);
        Check.due("what 13 of three", x.acts(0, 0, 0, 1, 13), NONE);
    }

    static void promise9_together_from0To36() {
        Check.due("0", withActs("l0;m00;m00", 1).acts(0, 0, 0, 1, 0), 0);
        Check.due("36, no acts", withActs("l3;m99;m99;m99;m99").acts(0, 0, 0, 0, 0), 36);
        Check.due("35, a night", withActs("l3;m99;m99;m99;m99", 3).acts(0, 0, 0, 1, 0), 35);
    }

    static void promise9_behindThem_asIfTheyWereDone() {
        int[] acts = {3, 3, 0, 1, 3, 0, 2, 1, 3, 0, 2, 3, 3};
        for (int n = 0; n <= acts.length; n++) {
            WaterConsent told = withActs("l2;m19;m29;p15;m90", java.util.Arrays.copyOf(acts, n));
            WaterConsent done = Check.canalOf("l2;m19;m29;p15;m90");
            int openings = 0;
            int silence = NONE;
            for (int k = 0; k < n && silence == NONE; k++) {
                openings += acts[k] < 3 ? 1 : 0;
                silence = (acts[k] == 3 ? done.nights(1) : done.open(acts[k])) >= 0 ? NONE : k;
            }
            int refused = -100 - silence;
            Check.due(n + " acts, the silence", told.acts(0, 0, 0, n, 1), silence);
            Check.due(n + " acts, together", told.acts(0, 0, 0, n, 0), silence == NONE ? done.many(2) : refused);
            Check.due(n + " acts, openings", told.acts(0, 0, 0, n, 2), silence == NONE ? openings : refused);
            Check.due(n + " acts, gates", told.acts(0, 0, 0, n, 3), silence == NONE ? done.gates() : refused);
            for (int r = 0; r < 4; r++) {
                int level = silence == NONE ? done.ofReach(r, 1) : refused;
                Check.due(n + " acts, level " + r, told.acts(0, 0, 0, n, 10 + r), level);
            }
        }
    }

    static void promise9_openings_noneAndAll() {
        WaterConsent x = withActs("l0;m29;m09;m09", 0, 1, 0, 1);
        Check.due("all", x.acts(0, 0, 0, 4, 2), 4);
        Check.due("of no acts", x.acts(0, 0, 4, 0, 2), 0);
        Check.due("of 40 nights", withActs(THREE, rowOf(40, 2)).acts(0, 0, 0, 40, 2), 0);
        Check.due("nights are none", withActs(THREE, 2, 0, 2).acts(0, 0, 0, 3, 2), 1);
    }

    static void promise9_gatesBehindThem_emptyAndFull() {
        Check.due("none left", withActs("l0;m10;m01", 0).acts(0, 0, 0, 1, 3), 0);
        Check.due("all", withActs("l3;m09;m19;m19;m19", 3).acts(0, 0, 0, 1, 3), 7);
    }

    // ---- promise 9: the silence

    static void promise9_silence_atTheFirstPlace() {
        WaterConsent x = withActs("l0;m09;m09", 0, 0);
        Check.due("its place", x.acts(0, 0, 0, 2, 1), 0);
        for (int what : new int[] {0, 2, 3, 10, 11, 12, 13}) {
            Check.due("what " + what, x.acts(0, 0, 0, 2, what), -100);
            Check.due("fault()", x.fault(), 0);
        }
    }

    static void promise9_silence_atTheLastPlace() {
        int[] acts = rowOf(40, 1);
        acts[39] = 0;
        WaterConsent x = withActs("l0;m99;m00", acts);
        Check.due("its place", x.acts(0, 0, 0, 40, 1), 39);
        for (int what : new int[] {0, 2, 3, 10, 11, 12, 13}) {
            Check.due("what " + what, x.acts(0, 0, 0, 40, what), -139);
        }
        Check.due("one act fewer has none", x.acts(0, 0, 0, 39, 1), NONE);
    }

    static void promise9_silence_ofTwoTheFirst() {
        WaterConsent x = withActs("l0;m19;m09", 0, 0, 1, 0);
        Check.due("its place", x.acts(0, 0, 0, 4, 1), 1);
        Check.due("what 0", x.acts(0, 0, 0, 4, 0), -101);
    }

    static void promise9_silence_toldByItsPlaceInTheRow() {
        WaterConsent x = withActs("l0;m19;m09", 9, 9, 9, 1, 0, 0, 9);
        Check.due("from 3 on", x.acts(0, 0, 3, 3, 1), 2);
        Check.due("from 3 on, what 0", x.acts(0, 0, 3, 3, 0), -102);
        Check.due("from 4 on", x.acts(0, 0, 4, 2, 1), 1);
        Check.due("from 4 on, what 10", x.acts(0, 0, 4, 2, 10), -101);
        Check.due("from 5 on", x.acts(0, 0, 5, 1, 1), NONE);
    }

    static void promise9_silence_alsoWhereThereIsNoReach() {
        WaterConsent x = withActs("l0;m19;m09", 0, 0);
        Check.due("reach 2", x.acts(0, 0, 0, 2, 12), -101);
        Check.due("reach 3", x.acts(0, 0, 0, 2, 13), -101);
        Check.due("reach 3, no silence", x.acts(0, 0, 0, 1, 13), NONE);
    }

    static void promise9_silence_theOneAboveHasLevel0() {
        Check.due("level 1", withActs("l0;m10;m09", 0).acts(0, 0, 0, 1, 1), NONE);
        Check.due("level 0", withActs("l0;m00;m09", 0).acts(0, 0, 0, 1, 1), 0);
        Check.due("level 0 by the act ahead", withActs("l0;m10;m09", 0, 0).acts(0, 0, 0, 2, 1), 1);
        Check.due("level 1 by the night ahead", withActs("l1;m10;m09", 0, 1, 0).acts(0, 0, 0, 3, 1), NONE);
    }

    static void promise9_silence_theOneBelowDoesNotConsent() {
        Check.due("below its want", withActs("l0;m90;p34", 0).acts(0, 0, 0, 1, 1), 0);
        Check.due("at its want by the act ahead", withActs("l0;m90;p24", 0, 0).acts(0, 0, 0, 2, 1), 1);
        Check.due("below its want by the night ahead", withActs("l0;m90;p24", 0, 1, 0).acts(0, 0, 0, 3, 1), NONE);
    }

    static void promise9_silence_aNightIsNone() {
        Check.due("all empty", withActs("l0;m00;m00", rowOf(40, 1)).acts(0, 0, 0, 40, 1), NONE);
        Check.due("all full", withActs("l3;m90;m90", rowOf(40, 1)).acts(0, 0, 0, 40, 1), NONE);
    }

    static void promise9_nights_9AtMostAnd0AtLeast() {
        WaterConsent x = withActs("l3;m70;m10", 1, 1, 1);
        Check.due("first, one night", x.acts(0, 0, 0, 1, 10), 9);
        Check.due("first, three nights", x.acts(0, 0, 0, 3, 10), 9);
        Check.due("last, one night", x.acts(0, 0, 0, 1, 11), 0);
        Check.due("last, three nights", x.acts(0, 0, 0, 3, 11), 0);
        Check.due("together", x.acts(0, 0, 0, 3, 0), 9);
    }

    static void promise9_nothingIsChanged() {
        WaterConsent x = withActs(FOUR, 3, 0, 1, 2, 3);
        x.reading(0, -9, true);
        x.tell(0);
        WaterConsent twin = withActs(FOUR, 3, 0, 1, 2, 3);
        twin.reading(0, -9, true);
        twin.tell(0);
        for (int what : new int[] {0, 1, 2, 3, 10, 11, 12, 13}) {
            x.acts(0, 0, 0, 5, what);
            x.acts(0, 0, 1, 4, what);
        }
        Check.same("all as ahead of it", Snapshot.of(x), Snapshot.of(twin));
    }

    // ---- promise 9: refusals and faults, and which one of two

    private static void faultIs(WaterConsent x, String call, int answer, int due) {
        Check.due(call, answer, due);
        Check.due("fault() behind " + call, x.fault(), due <= -11 && due >= -14 ? -10 - due : 0);
    }

    static void promise9_unknown_sheetsFrom0To3() {
        WaterConsent x = Check.canalOf(TWO);
        for (int k = 0; k < 4; k++) {
            Check.row(x, k, 0, 1);
            Check.due("sheet " + k, x.acts(k, 0, 0, 1, 0), 2);
        }
        for (int k : new int[] {-1, 4, LEAST, GREATEST}) {
            faultIs(x, "sheet " + k, x.acts(k, 0, 0, 1, 0), -1);
        }
    }

    static void promise9_outside_lanesFrom0To2() {
        WaterConsent x = Check.canalOf(TWO);
        for (int lane = 0; lane < 3; lane++) {
            Check.row(x, 0, lane, 1);
            Check.due("lane " + lane, x.acts(0, lane, 0, 1, 0), 2);
        }
        for (int lane : new int[] {-1, 3, LEAST, GREATEST}) {
            faultIs(x, "lane " + lane, x.acts(0, lane, 0, 1, 0), -2);
        }
    }

    static void promise9_unknownAheadOfOutside() {
        WaterConsent x = withActs(TWO, 1);
        faultIs(x, "lane 3", x.acts(4, 3, 0, 1, 0), -1);
        faultIs(x, "n 41", x.acts(-1, 0, 0, 41, 0), -1);
        faultIs(x, "what 4", x.acts(4, 0, 0, 1, 4), -1);
        x = new WaterConsent();
        faultIs(x, "no canal", x.acts(4, 0, 0, 0, 0), -1);
    }

    static void promise9_outsideAheadOfState() {
        WaterConsent x = new WaterConsent();
        faultIs(x, "lane 3", x.acts(0, 3, 0, 0, 0), -2);
        faultIs(x, "lane -1", x.acts(0, -1, 0, 0, 0), -2);
        faultIs(x, "n 41", x.acts(0, 0, 0, 41, 0), -2);
        faultIs(x, "n -1", x.acts(0, 0, 0, -1, 0), -2);
        faultIs(x, "what 4", x.acts(0, 0, 0, 0, 4), -2);
        faultIs(x, "what 14", x.acts(0, 0, 0, 0, 14), -2);
        faultIs(x, "what 13 is taken", x.acts(0, 0, 0, 0, 13), -3);
    }

    static void promise9_outsideAheadOfFaults() {
        WaterConsent x = withActs(TWO, 1);
        faultIs(x, "n -1, no SIZE", x.acts(0, 0, 0, -1, 0), -2);
        faultIs(x, "n 41 ahead of INDEX", x.acts(0, 0, 0, 41, 0), -2);
        faultIs(x, "what 4 ahead of CAST", x.acts(0, 1, 0, 1, 4), -2);
        faultIs(x, "lane 3 ahead of NULL", x.acts(3, 3, 0, 1, 0), -2);
        faultIs(x, "n -1 ahead of NULL", x.acts(3, 0, 0, -1, 0), -2);
    }

    static void promise9_stateAheadOfFaults() {
        WaterConsent x = new WaterConsent();
        Check.row(x, 0, 0, 9);
        faultIs(x, "ahead of CAST", x.acts(0, 1, 0, 1, 0), -3);
        faultIs(x, "ahead of NULL", x.acts(1, 0, 0, 1, 0), -3);
        faultIs(x, "ahead of INDEX", x.acts(0, 0, 0, 2, 0), -3);
        faultIs(x, "ahead of INDEX, none taken", x.acts(0, 0, -1, 0, 0), -3);
        faultIs(x, "ahead of no act", x.acts(0, 0, 0, 1, 0), -3);
    }

    static void promise9_cast_ofEachOtherLaneAndAheadOfIndex() {
        WaterConsent x = Check.canalOf(TWO);
        for (int has = 0; has < 3; has++) {
            for (int as = 0; as < 3; as++) {
                Check.row(x, 0, has, 1);
                faultIs(x, has + " as " + as, x.acts(0, as, 0, 1, 0), has == as ? 2 : Check.CAST);
                faultIs(x, has + " as " + as + ", beyond", x.acts(0, as, 0, 2, 0), has == as ? Check.INDEX : Check.CAST);
                faultIs(x, has + " as " + as + ", below", x.acts(0, as, -1, 0, 0), has == as ? Check.INDEX : Check.CAST);
            }
        }
    }

    static void promise9_castAheadOfNoAct() {
        WaterConsent x = withActs(TWO, 9);
        faultIs(x, "CAST", x.acts(0, 1, 0, 1, 0), Check.CAST);
        faultIs(x, "no act", x.acts(0, 0, 0, 1, 0), -2);
    }

    static void promise9_null_nothingIsNoCastAndAheadOfIndex() {
        WaterConsent x = Check.canalOf(TWO);
        for (int lane = 0; lane < 3; lane++) {
            faultIs(x, "lane " + lane, x.acts(1, lane, 0, 0, 0), Check.NULL);
            faultIs(x, "lane " + lane + ", beyond", x.acts(1, lane, 0, 1, 0), Check.NULL);
            faultIs(x, "lane " + lane + ", below", x.acts(1, lane, -1, 0, 0), Check.NULL);
        }
    }

    static void promise9_index_ofCellsFromIOn() {
        WaterConsent x = withActs(TWO, 1, 1, 1);
        faultIs(x, "all", x.acts(0, 0, 0, 3, 0), 4);
        faultIs(x, "one more than all", x.acts(0, 0, 0, 4, 0), Check.INDEX);
        faultIs(x, "the last one", x.acts(0, 0, 2, 1, 0), 2);
        faultIs(x, "one more than the last", x.acts(0, 0, 2, 2, 0), Check.INDEX);
        faultIs(x, "one behind the last", x.acts(0, 0, 3, 1, 0), Check.INDEX);
        faultIs(x, "from -1 on", x.acts(0, 0, -1, 1, 0), Check.INDEX);
        faultIs(x, "from the least on", x.acts(0, 0, LEAST, 40, 0), Check.INDEX);
        faultIs(x, "from the greatest on", x.acts(0, 0, GREATEST, 40, 0), Check.INDEX);
    }

    static void promise9_index_ifNoneIsTakenToo() {
        WaterConsent x = withActs(TWO, 1, 1, 1);
        faultIs(x, "i -1", x.acts(0, 0, -1, 0, 0), Check.INDEX);
        faultIs(x, "i 0", x.acts(0, 0, 0, 0, 0), 2);
        faultIs(x, "i 3", x.acts(0, 0, 3, 0, 0), 2);
        faultIs(x, "i 4", x.acts(0, 0, 4, 0, 0), Check.INDEX);
        x.sheet(0, 0, 0);
        faultIs(x, "of a row of none, i 0", x.acts(0, 0, 0, 0, 0), 2);
        faultIs(x, "of a row of none, i 1", x.acts(0, 0, 1, 0, 0), Check.INDEX);
        faultIs(x, "of a row of none, one", x.acts(0, 0, 0, 1, 0), Check.INDEX);
    }

    static void promise9_indexAheadOfNoAct() {
        WaterConsent x = withActs(TWO, 9);
        faultIs(x, "INDEX", x.acts(0, 0, 0, 2, 0), Check.INDEX);
    }

    static void promise9_outside_actsFrom0ToAsManyAsThereAreGates() {
        String[] texts = {"l0;m39;m09", "l0;m39;m39;m09", "l0;m39;m39;m39;m09"};
        for (int t = 0; t < texts.length; t++) {
            int gates = t + 1;
            WaterConsent x = Check.canalOf(texts[t]);
            Check.row(x, 0, 2, -1, 0, gates - 1, gates, gates + 1, LEAST, GREATEST);
            int[] due = {-2, 1, 1, 0, -2, -2, -2};
            for (int i = 0; i < due.length; i++) {
                faultIs(x, gates + " gates, place " + i, x.acts(0, 2, i, 1, 2), due[i]);
            }
        }
    }

    static void promise9_outside_allAreLookedAtAheadOfAnyAct() {
        WaterConsent x = withActs("l0;m09;m09", 0, 1, 2, 1);
        faultIs(x, "no act behind a silence", x.acts(0, 0, 0, 3, 0), -2);
        faultIs(x, "no act behind a silence, its place", x.acts(0, 0, 0, 3, 1), -2);
        faultIs(x, "no act behind a silence, no reach", x.acts(0, 0, 0, 3, 13), -2);
        faultIs(x, "a silence", x.acts(0, 0, 0, 2, 1), 0);
        int[] acts = rowOf(41, 0);
        acts[39] = -1;
        x = withActs("l0;m09;m09", acts);
        faultIs(x, "the 40th", x.acts(0, 0, 0, 40, 1), -2);
        faultIs(x, "all but the 40th", x.acts(0, 0, 0, 39, 1), 0);
    }

    static void promise9_outside_cellsBehindThemAreNotLookedAt() {
        WaterConsent x = withActs(TWO, 9, 1, 9);
        faultIs(x, "the one between", x.acts(0, 0, 1, 1, 0), 2);
        faultIs(x, "none", x.acts(0, 0, 0, 0, 0), 2);
    }
}
