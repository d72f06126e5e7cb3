/** Promises 12 to 17, READINGS and ODDS: each sentence with a boundary has a test of its own. */
public final class ConsentBoundaryTest {
    private static final String TWO = "l1;m14;p13", THREE = "l1;m14;p13;s05", FOUR = "l1;m14;p13;s05;m29";
    private static final int LEAST = Boundaries.LEAST, GREATEST = Boundaries.GREATEST;
    private static final int NONE = -9;

    public static void main(String[] args) {
        Boundaries.run(ConsentBoundaryTest.class);
    }

    // ---- promise 12: reading

    static void promise12_readings8AtMost() {
        WaterConsent x = Check.canalOf(FOUR);
        for (int k = 0; k < 8; k++) {
            Check.due("the number of reading " + k, x.reading(3, 2, true), k);
            Check.due("how many", x.many(3), k + 1);
        }
        Check.due("the ninth", x.reading(3, 2, true), -4);
        Check.due("the tenth", x.reading(3, NONE, true), -4);
        Check.due("how many", x.many(3), 8);
    }

    static void promise12_full_changesNothing() {
        WaterConsent x = eightReadings();
        Check.due("FULL", x.reading(0, 0, false), -4);
        Check.same("all as ahead of it", Snapshot.of(x), Snapshot.of(eightReadings()));
    }

    private static WaterConsent eightReadings() {
        WaterConsent x = Check.canalOf(TWO);
        for (int k = 0; k < 8; k++) {
            x.reading(0, k, k < 4);
        }
        return x;
    }

    static void promise12_full_behindBackThereIsRoomAgain() {
        WaterConsent x = eightReadings();
        Check.due("back", x.back(1), 7);
        Check.due("the eighth", x.reading(0, 9, false), 7);
        Check.due("FULL again", x.reading(0, 9, false), -4);
        Check.due("back", x.back(8), 0);
        Check.due("the first", x.reading(0, 9, false), 0);
    }

    static void promise12_outside_vFrom0To9OrNone() {
        WaterConsent x = Check.canalOf(TWO);
        Check.due("v 0", x.reading(0, 0, true), 0);
        Check.due("v 9", x.reading(0, 9, false), 1);
        Check.due("v NONE", x.reading(0, NONE, true), 2);
        for (int v : new int[] {-1, 10, -8, -10, LEAST, GREATEST}) {
            Check.due("v " + v, x.reading(0, v, true), -2);
        }
        Check.due("how many", x.many(3), 3);
    }

    static void promise12_unknown_reaches() {
        WaterConsent x = Check.canalOf(THREE);
        Check.due("-1", x.reading(-1, 0, true), -1);
        Check.due("the first", x.reading(0, 0, true), 0);
        Check.due("the last", x.reading(2, 0, true), 1);
        Check.due("behind the last", x.reading(3, 0, true), -1);
        Check.due("the least", x.reading(LEAST, 0, true), -1);
        Check.due("the greatest", x.reading(GREATEST, 0, true), -1);
        Check.due("without a canal", new WaterConsent().reading(0, 0, true), -1);
    }

    static void promise12_unknownAheadOfOutsideAndFull() {
        WaterConsent x = eightReadings();
        Check.due("v 10", x.reading(2, 10, true), -1);
        Check.due("FULL", x.reading(-1, 0, true), -1);
        Check.due("without a canal", new WaterConsent().reading(0, 10, true), -1);
    }

    static void promise12_outsideAheadOfFull() {
        WaterConsent x = eightReadings();
        Check.due("v 10", x.reading(0, 10, true), -2);
        Check.due("v -1", x.reading(0, -1, true), -2);
        Check.due("v NONE is not OUTSIDE", x.reading(0, NONE, true), -4);
    }

    // ---- promise 13: back

    static void promise13_kFrom0ToAsManyAsThereAre() {
        for (int readings = 0; readings <= 8; readings++) {
            WaterConsent x = Check.canalOf(TWO);
            for (int k = 0; k < readings; k++) {
                x.reading(0, 0, true);
            }
            Check.due("-1 of " + readings, x.back(-1), -2);
            Check.due("one more than " + readings, x.back(readings + 1), -2);
            Check.due("the greatest", x.back(GREATEST), -2);
            Check.due("the least", x.back(LEAST), -2);
            Check.due("how many are left", x.many(3), readings);
            Check.due("none of " + readings, x.back(0), readings);
            Check.due("all of " + readings, x.back(readings), 0);
            Check.due("none of none", x.back(0), 0);
            Check.due("one of none", x.back(1), -2);
        }
    }

    static void promise13_withoutACanalThereAreNone() {
        WaterConsent x = new WaterConsent();
        Check.due("back(0)", x.back(0), 0);
        Check.due("back(1)", x.back(1), -2);
    }

    static void promise13_theLastOnes() {
        WaterConsent x = Check.canalOf(TWO);
        x.reading(0, 1, true);
        x.reading(0, 5, true);
        x.reading(0, 7, true);
        Check.due("by three", x.limits(0), 0b1100000000);
        Check.due("back", x.back(1), 2);
        Check.due("by two", x.limits(0), 0b1111000000);
        Check.due("back", x.back(1), 1);
        Check.due("by one", x.limits(0), 0b1111111100);
    }

    static void promise13_theNextIsNumberedByHowManyAreLeft() {
        WaterConsent x = eightReadings();
        Check.due("back", x.back(5), 3);
        Check.due("the next", x.reading(0, 0, true), 3);
    }

    // ---- promise 14: limits

    static void promise14_withoutReadingsAll() {
        WaterConsent x = Check.canalOf(FOUR);
        for (int r = 0; r < 4; r++) {
            Check.due("reach " + r, x.limits(r), 1023);
        }
    }

    private static int limits(char kind, int v, boolean did) {
        WaterConsent x = Check.canalOf("l0;" + kind + "00;m00");
        x.reading(0, v, did);
        return x.limits(0);
    }

    static void promise14_empty() {
        Check.due("mild, at 9", limits('m', 9, true), 0);
        Check.due("proud, at 8", limits('p', 8, true), 0);
        Check.due("sulky, at 4", limits('s', 4, true), 0);
    }

    static void promise14_theHighestLimitAlone() {
        Check.due("mild, at 8", limits('m', 8, true), 0b1000000000);
        Check.due("proud, at 7", limits('p', 7, true), 0b1000000000);
        Check.due("sulky, at 3", limits('s', 3, true), 0b1000000000);
    }

    static void promise14_theLowestLimits() {
        Check.due("mild, not at 0", limits('m', 0, false), 0b1);
        Check.due("proud, not at 0", limits('p', 0, false), 0b11);
        Check.due("sulky, not at 0", limits('s', 0, false), 0b111);
    }

    static void promise14_allButTheHighestAndAllButTheLowest() {
        Check.due("mild, not at 8", limits('m', 8, false), 0b111111111);
        Check.due("mild, not at 9", limits('m', 9, false), 1023);
        Check.due("mild, at 0", limits('m', 0, true), 0b1111111110);
        Check.due("proud, at 0", limits('p', 0, true), 0b1111111100);
        Check.due("sulky, at 0", limits('s', 0, true), 0b1111111000);
    }

    static void promise14_atTheLevelThatItHasWhenLimitsAreAsked() {
        WaterConsent x = Check.canalOf("l0;m00;m09");
        x.reading(1, NONE, true);
        for (int level = 0; level <= 9; level++) {
            x.fill(1, level);
            Check.due("level " + level, x.limits(1), 1023 & -(2 << level));
        }
        x.nights(1);
        Check.due("behind a night", x.limits(1), 0b1000000000);
        x.fill(0, 1);
        x.fill(1, 3);
        Check.due("a gate", x.open(0), 4);
        Check.due("behind a gate", x.limits(1), 0b1111100000);
    }

    static void promise14_levelsThatWereToldStay() {
        WaterConsent x = Check.canalOf("l0;m00;m09");
        x.reading(1, 3, true);
        x.fill(1, 9);
        Check.due("limits", x.limits(1), 0b1111110000);
    }

    static void promise14_allEightReadings() {
        WaterConsent x = Check.canalOf("l0;m04;m00");
        int[] due = {0b1111111110, 0b1111111100, 0b1111111000, 0b1111110000, 0b111110000, 0b11110000, 0b1110000, 0b110000};
        for (int k = 0; k < 8; k++) {
            x.reading(0, k < 4 ? k : 12 - k, k < 4);
            Check.due("by " + (k + 1), x.limits(0), due[k]);
        }
    }

    static void promise14_unknown_reaches() {
        WaterConsent x = Check.canalOf(THREE);
        Check.due("-1", x.limits(-1), -1);
        Check.due("the last", x.limits(2), 1023);
        Check.due("behind the last", x.limits(3), -1);
        Check.due("the least", x.limits(LEAST), -1);
        Check.due("the greatest", x.limits(GREATEST), -1);
        Check.due("without a canal", new WaterConsent().limits(0), -1);
    }

    static void promise14_nothingIsChanged() {
        WaterConsent x = eightReadings();
        for (int r = 0; r < 2; r++) {
            x.limits(r);
            x.kinds(r);
            x.levels(r);
        }
        Check.same("all as ahead of it", Snapshot.of(x), Snapshot.of(eightReadings()));
    }

    // ---- promise 15: kinds

    static void promise15_withoutReadingsAll() {
        WaterConsent x = Check.canalOf(FOUR);
        for (int r = 0; r < 4; r++) {
            Check.due("reach " + r, x.kinds(r), 7);
        }
    }

    /** Kinds of a reach of limit 9: they want 9, 8 and 4. */
    private static int kinds(int v, boolean did) {
        WaterConsent x = Check.canalOf("l0;p09;m00");
        x.reading(0, v, did);
        return x.kinds(0);
    }

    static void promise15_eachSetOfOneReading() {
        Check.due("at 3", kinds(3, true), 0b111);
        Check.due("at 4", kinds(4, true), 0b011);
        Check.due("at 7", kinds(7, true), 0b011);
        Check.due("at 8", kinds(8, true), 0b001);
        Check.due("at 9, empty", kinds(9, true), 0);
        Check.due("not at 3, empty", kinds(3, false), 0);
        Check.due("not at 4", kinds(4, false), 0b100);
        Check.due("not at 8", kinds(8, false), 0b110);
        Check.due("not at 9", kinds(9, false), 0b111);
    }

    static void promise15_theProudOneAlone() {
        WaterConsent x = Check.canalOf("l0;p09;m00");
        x.reading(0, 7, true);
        x.reading(0, 8, false);
        Check.due("kinds", x.kinds(0), 0b010);
    }

    static void promise15_ofALimitOf0AllWantAlike() {
        WaterConsent x = Check.canalOf("l0;m00;m00");
        x.reading(0, 0, false);
        Check.due("not at 0", x.kinds(0), 7);
        x.reading(0, 0, true);
        Check.due("at 0 too, empty", x.kinds(0), 0);
    }

    static void promise15_atTheLevelThatItHasWhenKindsAreAsked() {
        WaterConsent x = Check.canalOf("l0;m09;m00");
        x.reading(0, NONE, true);
        Check.due("at 0", x.kinds(0), 7);
        x.fill(0, 8);
        Check.due("at 8", x.kinds(0), 1);
        x.fill(0, 9);
        Check.due("at 9", x.kinds(0), 0);
    }

    static void promise15_unknown_reaches() {
        WaterConsent x = Check.canalOf(THREE);
        Check.due("-1", x.kinds(-1), -1);
        Check.due("the last", x.kinds(2), 7);
        Check.due("behind the last", x.kinds(3), -1);
        Check.due("the least", x.kinds(LEAST), -1);
        Check.due("the greatest", x.kinds(GREATEST), -1);
        Check.due("without a canal", new WaterConsent().kinds(0), -1);
    }

    // ---- promise 16: levels

    static void promise16_withoutReadingsAll() {
        WaterConsent x = Check.canalOf(FOUR);
        for (int r = 0; r < 4; r++) {
            Check.due("reach " + r, x.levels(r), 1023);
        }
    }

    private static int levels(String reach, boolean did) {
        WaterConsent x = Check.canalOf("l0;" + reach + ";m00");
        x.reading(0, NONE, did);
        return x.levels(0);
    }

    static void promise16_emptyFullAndBetween() {
        Check.due("it wants 0, and consented", levels("m00", true), 0);
        Check.due("it wants 0, and did not", levels("m00", false), 1023);
        Check.due("it wants 1, and consented", levels("m01", true), 0b1);
        Check.due("it wants 1, and did not", levels("m01", false), 0b1111111110);
        Check.due("it wants 9, and consented", levels("m09", true), 0b111111111);
        Check.due("it wants 9, and did not", levels("m09", false), 0b1000000000);
        Check.due("a proud one of limit 1, and consented", levels("p01", true), 0);
        Check.due("a sulky one of limit 3, and consented", levels("s03", true), 0b1);
    }

    static void promise16_inPlaceOfWhatItHas() {
        Check.due("it has a level that is not so", levels("m95", true), 0b11111);
    }

    static void promise16_levelsThatWereToldStay() {
        WaterConsent x = Check.canalOf("l0;m05;m00");
        x.reading(0, 4, true);
        Check.due("one that is so", x.levels(0), 1023);
        x.reading(0, 5, true);
        Check.due("one that is not", x.levels(0), 0);
        x.back(1);
        x.reading(0, NONE, true);
        Check.due("a told one, and one that is not told", x.levels(0), 0b11111);
    }

    static void promise16_unknown_reaches() {
        WaterConsent x = Check.canalOf(THREE);
        Check.due("-1", x.levels(-1), -1);
        Check.due("the last", x.levels(2), 1023);
        Check.due("behind the last", x.levels(3), -1);
        Check.due("the least", x.levels(LEAST), -1);
        Check.due("the greatest", x.levels(GREATEST), -1);
        Check.due("without a canal", new WaterConsent().levels(0), -1);
    }

    // ---- promises 14 to 16: in place of what that reach is alone

    static void promise14_inPlaceOfTheLimitAlone() {
        WaterConsent x = Check.canalOf("l0;p23;s05;m00");
        x.reading(0, NONE, false);
        Check.due("proud, not at its level 2", x.limits(0), 0b1111);
        x.fill(0, 4);
        Check.due("proud, not at its level 4", x.limits(0), 0b111111);
        x.back(1);
        x.reading(1, 1, true);
        Check.due("sulky, at 1", x.limits(1), 0b1111100000);
        Check.due("the other one has none", x.limits(0), 1023);
    }

    static void promise15_inPlaceOfTheKindAlone() {
        WaterConsent x = Check.canalOf("l0;m13;m00");
        x.reading(0, NONE, true);
        Check.due("of limit 3, at its level 1", x.kinds(0), 0b011);
        x.fill(0, 2);
        Check.due("of limit 3, at its level 2", x.kinds(0), 0b001);
        Check.tellCanal(x, "l0;m25;m00");
        x.reading(0, NONE, true);
        Check.due("of limit 5, at its level 2", x.kinds(0), 0b011);
    }

    static void promise16_inPlaceOfTheLevelAlone() {
        int[] due = {0b11111, 0b1111, 0b11};
        for (int kind = 0; kind < 3; kind++) {
            WaterConsent x = Check.canalOf("l0;" + "mps".charAt(kind) + "05;m00");
            x.reading(0, NONE, true);
            Check.due("of limit 5, kind " + kind, x.levels(0), due[kind]);
        }
    }

    static void promise14_15_16_readingsOfAllReaches() {
        WaterConsent x = Check.canalOf("l0;m05;p05;s05;m00");
        x.reading(1, 3, true);
        x.reading(3, 0, false);
        Check.due("those of others are so", x.limits(2), 1023);
        Check.due("its own alone", x.limits(1), 0b1111100000);
        x.reading(0, NONE, false);
        Check.due("one of reach 0 is not: limits of 1", x.limits(1), 0);
        Check.due("one of reach 0 is not: kinds of 1", x.kinds(1), 0);
        Check.due("one of reach 0 is not: levels of 1", x.levels(1), 0);
        Check.due("but with another limit of 0", x.limits(0), 0b1);
        Check.due("or another level of 0", x.levels(0), 0b1111100000);
        Check.due("no kind of 0", x.kinds(0), 0);
        x.fill(0, 5);
        Check.due("it is so at that level: limits of 1", x.limits(1), 0b1111100000);
    }

    // ---- promise 17: odds

    private static void share(WaterConsent x, int n, int v, int upper, int lower) {
        Check.due("upper of " + n + ", " + v, x.odds(n, v, 0), upper);
        Check.due("lower of " + n + ", " + v, x.odds(n, v, 1), lower);
    }

    static void promise17_nFrom0To8() {
        WaterConsent x = Check.canalOf("l1;m00;m00");
        Check.due("-1", x.odds(-1, 0, 0), Check.LOST);
        share(x, 0, 1, 0, 1);
        share(x, 1, 1, 1, 2);
        share(x, 8, 1, 255, 256);
        share(x, 8, 8, 1, 256);
        Check.due("9", x.odds(9, 0, 0), Check.LOST);
        Check.due("the least", x.odds(LEAST, 0, 1), Check.LOST);
        Check.due("the greatest", x.odds(GREATEST, 0, 1), Check.LOST);
    }

    static void promise17_vFrom0To9() {
        WaterConsent x = Check.canalOf("l3;m00;m00");
        Check.due("-1", x.odds(3, -1, 0), Check.LOST);
        share(x, 3, 0, 1, 1);
        share(x, 3, 9, 1, 8);
        Check.due("10", x.odds(3, 10, 0), Check.LOST);
        Check.due("NONE", x.odds(3, NONE, 0), Check.LOST);
        Check.due("the least", x.odds(3, LEAST, 0), Check.LOST);
        Check.due("the greatest", x.odds(3, GREATEST, 0), Check.LOST);
    }

    static void promise17_which0Or1() {
        WaterConsent x = Check.canalOf("l1;m00;m00");
        Check.due("-1", x.odds(2, 1, -1), Check.LOST);
        Check.due("0, the upper", x.odds(2, 1, 0), 3);
        Check.due("1, the lower", x.odds(2, 1, 1), 4);
        Check.due("2", x.odds(2, 1, 2), Check.LOST);
        Check.due("the least", x.odds(2, 1, LEAST), Check.LOST);
        Check.due("the greatest", x.odds(2, 1, GREATEST), Check.LOST);
    }

    static void promise17_lost_withoutACanal() {
        WaterConsent x = new WaterConsent();
        Check.due("all from 0 on", x.odds(0, 0, 0), Check.LOST);
        Check.due("OUTSIDE, too", x.odds(9, 10, 2), Check.LOST);
    }

    static void promise17_share_noneIs0Of1() {
        WaterConsent x = Check.canalOf("l1;m00;m00");
        for (int n = 0; n <= 8; n++) {
            share(x, n, 9, 0, 1);
            share(x, n, Math.min(9, n + 1), 0, 1);
        }
    }

    static void promise17_share_allIs1Of1() {
        WaterConsent x = Check.canalOf("l1;m50;m00");
        for (int n = 0; n <= 8; n++) {
            share(x, n, 0, 1, 1);
            share(x, n, 5, 1, 1);
        }
    }

    static void promise17_share_leastTerms() {
        WaterConsent x = Check.canalOf("l1;m00;m00");
        share(x, 1, 1, 1, 2);
        share(x, 3, 2, 1, 2);
        share(x, 5, 3, 1, 2);
        share(x, 7, 4, 1, 2);
        share(x, 4, 3, 5, 16);
        share(x, 6, 2, 57, 64);
    }

    static void promise17_rain_9AtMost() {
        share(Check.canalOf("l3;m90;m00"), 8, 9, 1, 1);
        share(Check.canalOf("l3;m80;m00"), 1, 9, 1, 2);
        share(Check.canalOf("l3;m70;m00"), 8, 9, 255, 256);
        share(Check.canalOf("l3;m60;m00"), 1, 9, 1, 2);
        share(Check.canalOf("l3;m50;m00"), 2, 9, 1, 4);
    }

    static void promise17_rain_0IsNone() {
        WaterConsent x = Check.canalOf("l0;m40;m00");
        share(x, 8, 4, 1, 1);
        share(x, 8, 5, 0, 1);
    }

    static void promise17_fromHowAllIsNow() {
        WaterConsent x = Check.canalOf("l0;m00;m09");
        share(x, 2, 3, 0, 1);
        x.rain(2);
        share(x, 2, 3, 1, 4);
        x.fill(0, 1);
        share(x, 2, 3, 3, 4);
        x.nights(1);
        share(x, 2, 3, 1, 1);
        x.open(0);
        share(x, 2, 3, 3, 4);
        Check.tellCanal(x, "l1;m20;m00");
        share(x, 2, 3, 3, 4);
        share(x, 2, 4, 1, 4);
    }

    static void promise17_ofTheFirstReachAlone() {
        share(Check.canalOf("l1;m00;m99;m99;m99"), 2, 2, 1, 4);
        share(Check.canalOf("l1;p09;s00;m59"), 2, 2, 1, 4);
        share(Check.canalOf("l1;s00;m99"), 2, 2, 1, 4);
    }

    static void promise17_namesNoFaults() {
        WaterConsent x = Check.canalOf(TWO);
        x.put(0, 0, 0);
        Check.due("LOST", x.odds(9, 0, 0), Check.LOST);
        Check.due("fault()", x.fault(), 1);
    }

    static void promise17_nothingIsChanged() {
        WaterConsent x = Check.canalOf(FOUR);
        x.odds(8, 5, 0);
        x.odds(8, 5, 1);
        Check.same("all as ahead of it", Snapshot.of(x), Snapshot.of(Check.canalOf(FOUR)));
    }
}
