/** Promises 1 to 5, and what the terms tell of a CANAL: each sentence with a boundary has a test of its own. */
public final class CanalBoundaryTest {
    private static final String TWO = "l1;m14;p13", THREE = "l1;m14;p13;s05", FOUR = "l1;m14;p13;s05;m29";
    private static final int LEAST = Boundaries.LEAST, GREATEST = Boundaries.GREATEST;

    public static void main(String[] args) {
        Boundaries.run(CanalBoundaryTest.class);
    }

    // ---- promise 1: a new object

    static void promise1_noCanal_noReaches() {
        WaterConsent x = new WaterConsent();
        for (int r = -1; r <= 4; r++) {
            Check.due("ofReach " + r, x.ofReach(r, 0), -1);
            Check.due("fill " + r, x.fill(r, 0), -1);
            Check.due("open " + r, x.open(r), -1);
            Check.due("boat from " + r, x.boat(r, r + 1, -1), -1);
            Check.due("raise " + r, x.raise(r, 0, -1), -1);
            Check.due("reading " + r, x.reading(r, 0, true), -1);
            Check.due("limits " + r, x.limits(r), -1);
            Check.due("kinds " + r, x.kinds(r), -1);
            Check.due("levels " + r, x.levels(r), -1);
            Check.due("tell " + r, x.tell(r), -1);
            Check.due("flatter " + r, x.flatter(r), -1);
            Check.due("as " + r, x.as(r, 0), -1);
        }
        Check.due("many(0)", x.many(0), 0);
    }

    static void promise1_noCanal_whatNeedsOneIsState() {
        WaterConsent x = new WaterConsent();
        Check.due("rain", x.rain(0), -3);
        Check.due("gates", x.gates(), -3);
        Check.due("nights", x.nights(0), -3);
        Check.due("acts", x.acts(0, 0, 0, 0, 0), -3);
        Check.due("odds", x.odds(0, 0, 0), Check.LOST);
    }

    static void promise1_sheetsHaveNothing() {
        WaterConsent x = new WaterConsent();
        for (int k = 0; k < 4; k++) {
            Check.due("put", x.put(k, 0, 0), Check.NULL);
            Check.due("canal", x.canal(k, 0, 0, 0), Check.NULL);
            Check.due("copy", x.copy(k, 0, k, 0, 0), Check.NULL);
            Check.due("cell", x.cell(k, 0, 0), Check.LOST);
            Check.due("fault() of cell", x.fault(), 1);
            Check.due("lose", x.lose(k), 0);
        }
    }

    static void promise1_traceAndFaultAre0() {
        WaterConsent x = new WaterConsent();
        Check.due("fault()", x.fault(), 0);
        Check.due("trace()", x.trace(), 0);
    }

    static void promise1_objectsShareNothing() {
        WaterConsent one = Check.canalOf(FOUR);
        Check.row(one, 0, 2, 7);
        one.tell(0);
        one.reading(0, 0, true);
        one.as(0, 2);
        WaterConsent other = new WaterConsent();
        Check.due("reaches", other.many(0), 0);
        Check.due("readings", other.many(3), 0);
        Check.due("trace", other.trace(), 0);
        Check.due("fault", other.fault(), 0);
        Check.due("sheet 0", other.lose(0), 0);
        Check.due("the one's sheet 0", one.lose(0), 1);
    }

    // ---- promise 2: what a text is

    /** What canal answers to a text with another sign at a place. */
    private static int withSign(String text, int place, int sign) {
        int[] codes = Check.codes(text);
        codes[place] = sign;
        WaterConsent x = new WaterConsent();
        Check.row(x, 0, 2, codes);
        return x.canal(0, 2, 0, codes.length);
    }

    private static int answer(String text) {
        return Check.tellCanal(new WaterConsent(), text);
    }

    static void promise2_text_rainFrom0To3() {
        for (int rain = 0; rain <= 3; rain++) {
            Check.due("rain " + rain, Check.canalOf("l" + rain + ";m14;p13").many(1), rain);
        }
        Check.due("the sign ahead of 0", withSign(TWO, 1, '/'), -101);
        Check.due("4", withSign(TWO, 1, '4'), -101);
        Check.due("9", withSign(TWO, 1, '9'), -101);
        Check.due("the number 0, no digit", withSign(TWO, 1, 0), -101);
        Check.due("the number 3, no digit", withSign(TWO, 1, 3), -101);
    }

    static void promise2_text_twoReachesAtLeast() {
        Check.due("one reach", answer("l1;m14"), -106);
        Check.due("two reaches", answer(TWO), 2);
    }

    static void promise2_text_fourReachesAtMost() {
        Check.due("three reaches", answer(THREE), 3);
        Check.due("four reaches", answer(FOUR), 4);
        Check.due("five reaches", answer(FOUR + ";m11"), -118);
    }

    static void promise2_text_levelsAndLimitsFrom0To9() {
        for (int digit = 0; digit <= 9; digit++) {
            WaterConsent x = Check.canalOf("l0;m" + digit + (9 - digit) + ";p" + (9 - digit) + digit);
            Check.due("level", x.ofReach(0, 1), digit);
            Check.due("limit", x.ofReach(0, 2), 9 - digit);
            Check.due("level of the other", x.ofReach(1, 1), 9 - digit);
            Check.due("limit of the other", x.ofReach(1, 2), digit);
        }
        for (int reach = 0; reach < 4; reach++) {
            for (int place = 4 + 4 * reach; place <= 5 + 4 * reach; place++) {
                Check.due("the sign ahead of 0 at " + place, withSign(FOUR, place, 47), -100 - place);
                Check.due("0 at " + place, withSign(FOUR, place, 48), 4);
                Check.due("9 at " + place, withSign(FOUR, place, 57), 4);
                Check.due("the sign behind 9 at " + place, withSign(FOUR, place, 58), -100 - place);
            }
        }
    }

    static void promise2_text_lettersAreMPSAlone() {
        for (int reach = 0; reach < 4; reach++) {
            int place = 3 + 4 * reach;
            for (int sign = 'a'; sign <= 'z'; sign++) {
                boolean isKind = sign == 109 || sign == 112 || sign == 115;
                Check.due("sign " + sign + " at " + place, withSign(FOUR, place, sign), isKind ? 4 : -100 - place);
            }
            Check.due("M at " + place, withSign(FOUR, place, 'M'), -100 - place);
        }
        WaterConsent x = Check.canalOf("l0;s11;p11;m11");
        Check.due("s is 2", x.ofReach(0, 0), 2);
        Check.due("p is 1", x.ofReach(1, 0), 1);
        Check.due("m is 0", x.ofReach(2, 0), 0);
    }

    static void promise2_text_beginsWithL() {
        Check.due("107", withSign(TWO, 0, 107), -100);
        Check.due("108", withSign(TWO, 0, 108), 2);
        Check.due("109", withSign(TWO, 0, 109), -100);
        Check.due("L", withSign(TWO, 0, 'L'), -100);
    }

    static void promise2_text_aSemicolonAheadOfEachReach() {
        for (int reach = 0; reach < 4; reach++) {
            int place = 2 + 4 * reach;
            Check.due("58 at " + place, withSign(FOUR, place, 58), -100 - place);
            Check.due("59 at " + place, withSign(FOUR, place, 59), 4);
            Check.due("60 at " + place, withSign(FOUR, place, 60), -100 - place);
        }
    }

    static void promise2_text_reachesAreNumberedFrom0TheHighestOn() {
        WaterConsent x = Check.canalOf("l0;m12;p34;s56;m78");
        for (int r = 0; r < 4; r++) {
            Check.due("level " + r, x.ofReach(r, 1), 1 + 2 * r);
            Check.due("limit " + r, x.ofReach(r, 2), 2 + 2 * r);
        }
    }

    // ---- promise 2: the first fault

    static void promise2_firstFault_theSemicolonOfAFifthReach() {
        Check.due("it alone", answer(FOUR + ";"), -118);
        Check.due("a whole fifth reach", answer(FOUR + ";m11"), -118);
        Check.due("any other sign there", answer(FOUR + "m"), -118);
        Check.due("the text of a fifth to the ninth", answer(FOUR + ";m11;m11;m11;m11;m11"), -118);
    }

    static void promise2_firstFault_howManyIfItEndsTooSoon() {
        for (int n = 0; n <= FOUR.length(); n++) {
            boolean isWhole = n == 10 || n == 14 || n == 18;
            Check.due(n + " codes", answer(FOUR.substring(0, n)), isWhole ? (n - 2) / 4 : -100 - n);
        }
    }

    static void promise2_firstFault_ofNoCodesIs0() {
        WaterConsent x = new WaterConsent();
        for (int lane = 0; lane < 3; lane++) {
            x.sheet(0, lane, 0);
            Check.due("a row of none", x.canal(0, lane, 0, 0), -100);
            x.sheet(0, lane, 3);
            Check.due("none of three", x.canal(0, lane, 0, 0), -100);
            Check.due("none at the end", x.canal(0, lane, 3, 0), -100);
        }
    }

    static void promise2_firstFault_ofTwoTheFirst() {
        Check.due("two signs", answer("l1;m1x;p1x"), -105);
        Check.due("a sign, and it ends too soon", answer("l1;x"), -103);
        Check.due("a sign, and it is too long", answer("l1;m14;p13;s05;m2x;m11"), -117);
        Check.due("rain, and one reach alone", answer("l4;m14"), -101);
    }

    static void promise2_firstFault_countsFromThePlaceToldOn() {
        WaterConsent x = new WaterConsent();
        Check.row(x, 1, 1, Check.codes("?????l1;m14;p1x??"));
        Check.due("from 5 on", x.canal(1, 1, 5, 12), -109);
        Check.due("from 5 on, it ends too soon", x.canal(1, 1, 5, 9), -109);
        Check.due("from 4 on", x.canal(1, 1, 4, 12), -100);
        Check.due("from 6 on", x.canal(1, 1, 6, 11), -100);
    }

    static void promise2_firstFault_cellsBehindTheTextAreNone() {
        WaterConsent x = new WaterConsent();
        Check.row(x, 0, 0, Check.codes(FOUR + "x"));
        Check.due("18 cells", x.canal(0, 0, 0, 18), 4);
        Check.due("14 cells", x.canal(0, 0, 0, 14), 3);
        Check.due("10 cells", x.canal(0, 0, 0, 10), 2);
        Check.due("19 cells", x.canal(0, 0, 0, 19), -118);
    }

    static void promise2_firstFault_ofSixtyCells() {
        WaterConsent x = new WaterConsent();
        int[] cells = new int[60];
        System.arraycopy(Check.codes(FOUR), 0, cells, 42, 18);
        Check.row(x, 0, 0, cells);
        Check.due("all of them", x.canal(0, 0, 0, 60), -100);
        Check.due("the last 18", x.canal(0, 0, 42, 18), 4);
        Check.due("the last 17", x.canal(0, 0, 43, 17), -100);
    }

    static void promise2_firstFault_codesAreNotCutAgain() {
        Check.due("108 and 256", withSign(TWO, 0, 108 + 256), -100);
        Check.due("108 and 65536", withSign(TWO, 0, 108 + 65536), -100);
        Check.due("48 less 256", withSign(TWO, 9, 48 - 256), -109);
        Check.due("the least", withSign(TWO, 3, LEAST), -103);
        Check.due("the greatest", withSign(TWO, 2, GREATEST), -102);
        WaterConsent x = new WaterConsent();
        int[] codes = Check.codes(TWO);
        codes[0] = 108 + 256;
        Check.row(x, 0, 0, codes);
        Check.due("cut to a byte as it was put", x.canal(0, 0, 0, 10), 2);
    }

    static void promise2_firstFault_changesNothingAndIsNoFault() {
        WaterConsent ahead = inUse();
        String due = Snapshot.of(ahead);
        String[] texts = {"x", FOUR.substring(0, 17), "l1;m14", "l1;m14;p1x"};
        for (String text : texts) {
            WaterConsent x = inUse();
            for (int i = 0; i < text.length(); i++) {
                x.put(0, i, text.charAt(i));
            }
            x.as(0, 2);
            Check.due("canal of " + text, x.canal(0, 0, 0, text.length()) <= -100 ? 1 : 0, 1);
            Check.due("fault()", x.fault(), 0);
            for (int i = 0; i < text.length(); i++) {
                x.put(0, i, 0);
            }
            Check.same("all as ahead of " + text, Snapshot.of(x), due);
        }
    }

    /** An object with a canal, readings, a trace, and an empty row in sheet 0. */
    private static WaterConsent inUse() {
        WaterConsent x = Check.canalOf("l2;m35;s46;p78");
        x.sheet(0, 0, 18);
        x.sheet(1, 1, 2);
        x.reading(0, 0, true);
        x.reading(2, -9, false);
        x.fill(1, 9);
        x.tell(2);
        return x;
    }

    // ---- promise 2: refusals and faults, and which one of two

    private static WaterConsent withRow() {
        WaterConsent x = new WaterConsent();
        Check.row(x, 0, 1, Check.codes(FOUR));
        x.sheet(1, 2, 0);
        return x;
    }

    private static void faultIs(WaterConsent x, String call, int answer, int due) {
        Check.due(call, answer, due);
        Check.due("fault() behind " + call, x.fault(), due <= -11 && due >= -14 ? -10 - due : 0);
    }

    static void promise2_unknown_sheetsFrom0To3() {
        WaterConsent x = new WaterConsent();
        for (int k = 0; k < 4; k++) {
            Check.row(x, k, 0, Check.codes(TWO));
            Check.due("sheet " + k, x.canal(k, 0, 0, 10), 2);
        }
        for (int k : new int[] {-1, 4, LEAST, GREATEST}) {
            faultIs(x, "sheet " + k, x.canal(k, 0, 0, 10), -1);
        }
    }

    static void promise2_outside_lanesFrom0To2() {
        WaterConsent x = new WaterConsent();
        for (int lane = 0; lane < 3; lane++) {
            Check.row(x, 0, lane, Check.codes(TWO));
            Check.due("lane " + lane, x.canal(0, lane, 0, 10), 2);
        }
        for (int lane : new int[] {-1, 3, LEAST, GREATEST}) {
            faultIs(x, "lane " + lane, x.canal(0, lane, 0, 10), -2);
        }
    }

    static void promise2_unknownAheadOfOutside() {
        WaterConsent x = withRow();
        faultIs(x, "sheet 4, lane 3", x.canal(4, 3, 0, 18), -1);
        faultIs(x, "sheet -1, lane -1", x.canal(-1, -1, -1, -1), -1);
    }

    static void promise2_outsideAheadOfFaults() {
        WaterConsent x = withRow();
        faultIs(x, "ahead of CAST", x.canal(0, 3, 0, 18), -2);
        faultIs(x, "ahead of NULL", x.canal(3, 3, 0, 18), -2);
        faultIs(x, "ahead of SIZE", x.canal(0, -1, 0, -1), -2);
        faultIs(x, "ahead of INDEX", x.canal(0, -1, 19, 1), -2);
    }

    static void promise2_cast_ofEachOtherLane() {
        WaterConsent x = new WaterConsent();
        for (int has = 0; has < 3; has++) {
            for (int as = 0; as < 3; as++) {
                Check.row(x, 0, has, Check.codes(TWO));
                faultIs(x, "lane " + has + " as " + as, x.canal(0, as, 0, 10), has == as ? 2 : Check.CAST);
                x.sheet(0, has, 0);
                faultIs(x, "a row of none, lane " + has + " as " + as, x.canal(0, as, 0, 0), has == as ? -100 : Check.CAST);
            }
        }
    }

    static void promise2_castAheadOfSizeAndIndex() {
        WaterConsent x = withRow();
        faultIs(x, "CAST ahead of SIZE", x.canal(0, 0, 0, -1), Check.CAST);
        faultIs(x, "CAST ahead of INDEX, below", x.canal(0, 2, -1, 1), Check.CAST);
        faultIs(x, "CAST ahead of INDEX, beyond", x.canal(0, 2, 0, 19), Check.CAST);
    }

    static void promise2_nothingIsNoCast() {
        WaterConsent x = withRow();
        for (int lane = 0; lane < 3; lane++) {
            faultIs(x, "nothing as lane " + lane, x.canal(3, lane, 0, 0), Check.NULL);
            x.sheet(2, lane, 1);
            x.lose(2);
            for (int as = 0; as < 3; as++) {
                faultIs(x, "a lost row of lane " + lane + " as " + as, x.canal(2, as, 0, 0), Check.NULL);
            }
        }
    }

    static void promise2_nullAheadOfSizeAndIndex() {
        WaterConsent x = withRow();
        faultIs(x, "NULL ahead of SIZE", x.canal(3, 0, 0, -1), Check.NULL);
        faultIs(x, "NULL ahead of INDEX, below", x.canal(3, 0, -1, 0), Check.NULL);
        faultIs(x, "NULL ahead of INDEX, beyond", x.canal(3, 0, 0, 1), Check.NULL);
    }

    static void promise2_size_nBelow0() {
        WaterConsent x = withRow();
        faultIs(x, "n -1", x.canal(0, 1, 0, -1), Check.SIZE);
        faultIs(x, "n -18 from the end", x.canal(0, 1, 18, -18), Check.SIZE);
        faultIs(x, "the least n", x.canal(0, 1, 0, LEAST), Check.SIZE);
        faultIs(x, "n -1 of a row of none", x.canal(1, 2, 0, -1), Check.SIZE);
        faultIs(x, "n 0 is none", x.canal(0, 1, 0, 0), -100);
    }

    static void promise2_sizeAheadOfIndex() {
        WaterConsent x = withRow();
        faultIs(x, "i -1, n -1", x.canal(0, 1, -1, -1), Check.SIZE);
        faultIs(x, "i 19, n -1", x.canal(0, 1, 19, -1), Check.SIZE);
        faultIs(x, "the least of both", x.canal(0, 1, LEAST, LEAST), Check.SIZE);
    }

    static void promise2_index_ofCellsFromIOn() {
        WaterConsent x = withRow();
        faultIs(x, "all", x.canal(0, 1, 0, 18), 4);
        faultIs(x, "one more than all", x.canal(0, 1, 0, 19), Check.INDEX);
        faultIs(x, "all but the first", x.canal(0, 1, 1, 17), -100);
        faultIs(x, "one more than all but the first", x.canal(0, 1, 1, 18), Check.INDEX);
        faultIs(x, "the last one", x.canal(0, 1, 17, 1), -100);
        faultIs(x, "one behind the last", x.canal(0, 1, 18, 1), Check.INDEX);
        faultIs(x, "one from -1 on", x.canal(0, 1, -1, 1), Check.INDEX);
        faultIs(x, "all from -1 on", x.canal(0, 1, -1, 18), Check.INDEX);
        faultIs(x, "one of a row of none", x.canal(1, 2, 0, 1), Check.INDEX);
    }

    static void promise2_index_ifNoneIsTakenToo() {
        WaterConsent x = withRow();
        faultIs(x, "i -1", x.canal(0, 1, -1, 0), Check.INDEX);
        faultIs(x, "i 0", x.canal(0, 1, 0, 0), -100);
        faultIs(x, "i 18", x.canal(0, 1, 18, 0), -100);
        faultIs(x, "i 19", x.canal(0, 1, 19, 0), Check.INDEX);
        faultIs(x, "of a row of none, i -1", x.canal(1, 2, -1, 0), Check.INDEX);
        faultIs(x, "of a row of none, i 0", x.canal(1, 2, 0, 0), -100);
        faultIs(x, "of a row of none, i 1", x.canal(1, 2, 1, 0), Check.INDEX);
        faultIs(x, "the least i", x.canal(0, 1, LEAST, 0), Check.INDEX);
        faultIs(x, "the greatest i", x.canal(0, 1, GREATEST, 0), Check.INDEX);
    }

    static void promise2_index_sumsThatWrap() {
        WaterConsent x = withRow();
        faultIs(x, "the greatest of both", x.canal(0, 1, GREATEST, GREATEST), Check.INDEX);
        faultIs(x, "i 1, the greatest n", x.canal(0, 1, 1, GREATEST), Check.INDEX);
        faultIs(x, "the greatest i, n 1", x.canal(0, 1, GREATEST, 1), Check.INDEX);
        faultIs(x, "the least i, the greatest n", x.canal(0, 1, LEAST, GREATEST), Check.INDEX);
    }

    static void promise2_indexAheadOfAFirstFault() {
        WaterConsent x = new WaterConsent();
        Check.row(x, 0, 0, Check.codes("x"));
        faultIs(x, "two of one", x.canal(0, 0, 0, 2), Check.INDEX);
        faultIs(x, "one of one", x.canal(0, 0, 0, 1), -100);
    }

    // ---- promise 2: all anew

    static void promise2_taken_noReadings() {
        WaterConsent x = Check.canalOf(FOUR);
        for (int k = 0; k < 8; k++) {
            x.reading(k % 4, 0, k % 2 == 0);
        }
        Check.due("canal", Check.tellCanal(x, FOUR), 4);
        Check.due("readings", x.many(3), 0);
        Check.due("limits", x.limits(0), 1023);
        Check.due("back", x.back(1), -2);
        Check.due("the next reading is the first", x.reading(0, 0, true), 0);
    }

    static void promise2_taken_levelsAndRainAnew() {
        WaterConsent x = Check.canalOf(FOUR);
        x.fill(0, 9);
        x.fill(3, 0);
        x.rain(3);
        x.nights(2);
        Check.due("canal", Check.tellCanal(x, FOUR), 4);
        Check.due("rain", x.many(1), 1);
        Check.due("first level", x.ofReach(0, 1), 1);
        Check.due("last level", x.ofReach(3, 1), 2);
    }

    static void promise2_taken_reachesAnewFewerAndMore() {
        WaterConsent x = Check.canalOf(FOUR);
        Check.due("two", Check.tellCanal(x, "l3;s12;p34"), 2);
        Check.due("no third reach", x.ofReach(2, 0), -1);
        Check.due("no second gate", x.open(1), -1);
        Check.due("levels together", x.many(2), 4);
        Check.due("three", Check.tellCanal(x, "l0;p99;p99;p99"), 3);
        Check.due("the third one's limit", x.ofReach(2, 2), 9);
        Check.due("no fourth reach", x.ofReach(3, 0), -1);
    }

    static void promise2_taken_sheetsAndTraceStay() {
        WaterConsent x = Check.canalOf(FOUR);
        Check.row(x, 0, 2, 70001, -5);
        Check.row(x, 1, 0, Check.codes(TWO));
        x.tell(2);
        int trace = x.trace();
        Check.due("canal", x.canal(1, 0, 0, 10), 2);
        Check.due("trace", x.trace(), trace);
        Check.cells(x, 0, 2, 70001, -5);
        Check.cells(x, 1, 0, 'l', '1', ';', 'm', '1', '4', ';', 'p', '1', '3');
        Check.due("sheet 2 has nothing still", x.lose(2), 0);
    }

    static void promise2_taken_faultIs0() {
        WaterConsent x = withRow();
        x.put(3, 0, 0);
        Check.due("fault() ahead of it", x.fault(), 1);
        Check.due("canal", x.canal(0, 1, 0, 18), 4);
        Check.due("fault()", x.fault(), 0);
    }

    // ---- promise 3: ofReach, and WANT

    static void promise3_unknown_reachesOfTwoThreeAndFour() {
        String[] texts = {TWO, THREE, FOUR};
        for (String text : texts) {
            WaterConsent x = Check.canalOf(text);
            int count = (text.length() - 2) / 4;
            for (int what = 0; what < 4; what++) {
                Check.due("-1", x.ofReach(-1, what), -1);
                Check.due("the first", x.ofReach(0, what) >= 0 ? 1 : 0, 1);
                Check.due("the last", x.ofReach(count - 1, what) >= 0 ? 1 : 0, 1);
                Check.due("behind the last", x.ofReach(count, what), -1);
                Check.due("the least", x.ofReach(LEAST, what), -1);
                Check.due("the greatest", x.ofReach(GREATEST, what), -1);
            }
        }
    }

    static void promise3_outside_whatFrom0To3() {
        WaterConsent x = Check.canalOf("l0;p28;m00");
        Check.due("-1", x.ofReach(0, -1), -2);
        Check.due("0 kind", x.ofReach(0, 0), 1);
        Check.due("1 LEVEL", x.ofReach(0, 1), 2);
        Check.due("2 LIMIT", x.ofReach(0, 2), 8);
        Check.due("3 WANT", x.ofReach(0, 3), 7);
        Check.due("4", x.ofReach(0, 4), -2);
        Check.due("the least", x.ofReach(0, LEAST), -2);
        Check.due("the greatest", x.ofReach(0, GREATEST), -2);
    }

    static void promise3_unknownAheadOfOutside() {
        WaterConsent x = Check.canalOf(TWO);
        Check.due("2, 4", x.ofReach(2, 4), -1);
        Check.due("-1, -1", x.ofReach(-1, -1), -1);
        Check.due("without a canal", new WaterConsent().ofReach(0, 4), -1);
    }

    private static int want(char kind, int limit) {
        return Check.canalOf("l0;" + kind + "0" + limit + ";m00").ofReach(0, 3);
    }

    static void promise3_want_ofAMildOneItsLimit() {
        for (int limit = 0; limit <= 9; limit++) {
            Check.due("limit " + limit, want('m', limit), limit);
        }
    }

    static void promise3_want_ofAProudOne1LessAnd0AtLeast() {
        Check.due("limit 0", want('p', 0), 0);
        Check.due("limit 1", want('p', 1), 0);
        Check.due("limit 2", want('p', 2), 1);
        Check.due("limit 9", want('p', 9), 8);
    }

    static void promise3_want_ofASulkyOneHalfAndCut() {
        int[] due = {0, 0, 0, 1, 1, 2, 2, 3, 3, 4};
        for (int limit = 0; limit <= 9; limit++) {
            Check.due("limit " + limit, want('s', limit), due[limit]);
        }
    }

    // ---- promise 4: fill

    static void promise4_levelFrom0To9() {
        WaterConsent x = Check.canalOf(FOUR);
        for (int v = 0; v <= 9; v++) {
            Check.due("v " + v, x.fill(1, v), v == 0 ? 1 : v - 1);
            Check.due("level", x.ofReach(1, 1), v);
        }
        for (int v : new int[] {-1, 10, -9, LEAST, GREATEST}) {
            Check.due("v " + v, x.fill(1, v), -2);
            Check.due("level stays", x.ofReach(1, 1), 9);
        }
    }

    static void promise4_aboveItsLimitToo() {
        WaterConsent x = Check.canalOf("l0;m00;s00");
        Check.due("it was 0", x.fill(1, 9), 0);
        Check.due("level", x.ofReach(1, 1), 9);
        Check.due("limit", x.ofReach(1, 2), 0);
    }

    static void promise4_ofThatReachAlone() {
        for (int r = 0; r < 4; r++) {
            WaterConsent x = Check.canalOf("l0;m11;m11;m11;m11");
            Check.due("it was 1", x.fill(r, 7), 1);
            for (int other = 0; other < 4; other++) {
                Check.due("level of " + other, x.ofReach(other, 1), other == r ? 7 : 1);
                Check.due("limit of " + other, x.ofReach(other, 2), 1);
            }
        }
    }

    static void promise4_unknown_reaches() {
        WaterConsent x = Check.canalOf(THREE);
        Check.due("-1", x.fill(-1, 0), -1);
        Check.due("the first", x.fill(0, 0), 1);
        Check.due("the last", x.fill(2, 0), 0);
        Check.due("behind the last", x.fill(3, 0), -1);
        Check.due("the least", x.fill(LEAST, 0), -1);
        Check.due("the greatest", x.fill(GREATEST, 0), -1);
    }

    static void promise4_unknownAheadOfOutside() {
        WaterConsent x = Check.canalOf(THREE);
        Check.due("3, 10", x.fill(3, 10), -1);
        Check.due("-1, -1", x.fill(-1, -1), -1);
        Check.due("without a canal", new WaterConsent().fill(0, 10), -1);
    }

    // ---- promise 5: rain

    static void promise5_rainFrom0To3() {
        WaterConsent x = Check.canalOf(TWO);
        Check.due("0", x.rain(0), 1);
        Check.due("3", x.rain(3), 0);
        for (int v : new int[] {-1, 4, 9, LEAST, GREATEST}) {
            Check.due("v " + v, x.rain(v), -2);
            Check.due("rain stays", x.many(1), 3);
        }
    }

    static void promise5_state_withoutACanal() {
        WaterConsent x = new WaterConsent();
        Check.due("0", x.rain(0), -3);
        Check.due("3", x.rain(3), -3);
        Check.due("rain stays 0", x.many(1), 0);
    }

    static void promise5_outsideAheadOfState() {
        WaterConsent x = new WaterConsent();
        Check.due("-1", x.rain(-1), -2);
        Check.due("4", x.rain(4), -2);
    }
}
