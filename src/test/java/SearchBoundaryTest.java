/** Promises 10 and 11, BOAT and RAISE: each sentence with a boundary has a test of its own. */
public final class SearchBoundaryTest {
    private static final String TWO = "l1;m14;p13", FOUR = "l1;m14;p13;s05;m29";
    private static final int LEAST = Boundaries.LEAST, GREATEST = Boundaries.GREATEST;
    private static final int NONE = -9;

    public static void main(String[] args) {
        Boundaries.run(SearchBoundaryTest.class);
    }

    /** How many acts there are, each of them, and none behind the last one. */
    private static void boatIs(WaterConsent x, int from, int to, int... acts) {
        Check.due("boat " + from + " to " + to, x.boat(from, to, -1), acts.length);
        for (int k = 0; k < 40; k++) {
            Check.due("act " + k, x.boat(from, to, k), k < acts.length ? acts[k] : NONE);
        }
    }

    private static void raiseIs(WaterConsent x, int r, int v, int... acts) {
        Check.due("raise " + r + " to " + v, x.raise(r, v, -1), acts.length);
        for (int k = 0; k < 40; k++) {
            Check.due("act " + k, x.raise(r, v, k), k < acts.length ? acts[k] : NONE);
        }
    }

    // ---- promise 10: boat

    static void promise10_atMost40_theLastThatIsTaken() {
        Check.due("four reaches, 0 to 1", Check.canalOf("l1;m00;m51;m91;m91").boat(0, 1, -1), 40);
        Check.due("sulky ones, 0 to 1", Check.canalOf("l1;m10;s83;m94;s76").boat(0, 1, -1), 40);
        Check.due("0 to 3", Check.canalOf("l1;s99;m83;p93;m42").boat(0, 3, -1), 40);
        Check.due("39, 0 to 3", Check.canalOf("l2;m46;p84;s93;m23").boat(0, 3, -1), 39);
    }

    static void promise10_atMost40_theFirstThatIsNot() {
        String[] canals = {"l1;m00;m61;m81;m91", "l2;m21;s94;m51;p62", "l2;m78;m92;s68;s95", "l1;s17;m92;s34;s83"};
        int[] to = {1, 1, 2, 3};
        for (int c = 0; c < canals.length; c++) {
            WaterConsent x = Check.canalOf(canals[c]);
            for (int k = -1; k < 40; k += 13) {
                Check.due("41 acts, " + k + " of " + canals[c], x.boat(0, to[c], k), NONE);
            }
        }
        Check.due("one reach less far, 38", Check.canalOf("l2;m78;m92;s68;s95").boat(0, 1, -1), 38);
    }

    static void promise10_act39_theLastOf40() {
        WaterConsent x = Check.canalOf("l1;m00;m51;m91;m91");
        Check.due("act 38", x.boat(0, 1, 38), 1);
        Check.due("act 39", x.boat(0, 1, 39), 0);
        x = Check.canalOf("l1;s99;m83;p93;m42");
        Check.due("act 39, the gate above the goal", x.boat(0, 3, 39), 2);
    }

    static void promise10_aRowOf40IsOneThatMayBeDone() {
        WaterConsent x = Check.canalOf("l1;s99;m83;p93;m42");
        x.sheet(0, 0, 40);
        int below = 0;
        for (int k = 0; k < 40; k++) {
            int act = x.boat(0, 3, k);
            x.put(0, k, act);
            below += act == below ? 1 : 0;
        }
        Check.due("no silence", x.acts(0, 0, 0, 40, 1), NONE);
        Check.due("the boat is in reach 3", below, 3);
    }

    static void promise10_kFromLess1To39() {
        WaterConsent x = Check.canalOf(FOUR);
        Check.due("k -1", x.boat(0, 3, -1), 3);
        Check.due("k 0", x.boat(0, 3, 0), 0);
        Check.due("k 39", x.boat(0, 3, 39), NONE);
        for (int k : new int[] {-2, 40, NONE, LEAST, GREATEST}) {
            Check.due("k " + k, x.boat(0, 3, k), -2);
        }
    }

    static void promise10_none_thereIsNoSuchAct() {
        WaterConsent x = Check.canalOf(FOUR);
        Check.due("the last one", x.boat(0, 3, 2), 2);
        Check.due("behind the last one", x.boat(0, 3, 3), NONE);
        Check.due("of one act", x.boat(0, 1, 0), 0);
        Check.due("behind the one act", x.boat(0, 1, 1), NONE);
    }

    static void promise10_none_thereAreNoActs() {
        String[] canals = {"l0;m00;m09", "l3;m90;m00", "l3;m90;p01", "l3;m90;s02"};
        for (String canal : canals) {
            WaterConsent x = Check.canalOf(canal);
            Check.due("acts of " + canal, x.boat(0, 1, -1), NONE);
            Check.due("act 0 of " + canal, x.boat(0, 1, 0), NONE);
            Check.due("act 39 of " + canal, x.boat(0, 1, 39), NONE);
            Check.due("OUTSIDE all the same", x.boat(0, 1, 40), -2);
        }
    }

    static void promise10_unknown_bothReaches() {
        WaterConsent x = Check.canalOf("l1;m14;p13;s05");
        Check.due("the first -1", x.boat(-1, 1, -1), -1);
        Check.due("the first behind the last", x.boat(3, 1, -1), -1);
        Check.due("the second -1", x.boat(0, -1, -1), -1);
        Check.due("the second behind the last", x.boat(0, 3, -1), -1);
        Check.due("both", x.boat(LEAST, GREATEST, -1), -1);
        Check.due("the last", x.boat(1, 2, -1) > 0 ? 1 : 0, 1);
        Check.due("without a canal", new WaterConsent().boat(0, 1, -1), -1);
    }

    static void promise10_state_theSecondIsNotLower() {
        WaterConsent x = Check.canalOf(FOUR);
        for (int from = 0; from < 4; from++) {
            for (int to = 0; to < 4; to++) {
                Check.due(from + " to " + to, x.boat(from, to, -1) == -3 ? 1 : 0, to <= from ? 1 : 0);
            }
        }
    }

    static void promise10_unknownAheadOfStateAndOutside() {
        WaterConsent x = Check.canalOf(TWO);
        Check.due("2 to 0", x.boat(2, 0, 0), -1);
        Check.due("2 to 2", x.boat(2, 2, 40), -1);
        Check.due("0 to -1", x.boat(0, -1, 0), -1);
        Check.due("0 to 2", x.boat(0, 2, 40), -1);
        Check.due("without a canal", new WaterConsent().boat(0, 0, -2), -1);
    }

    static void promise10_stateAheadOfOutside() {
        WaterConsent x = Check.canalOf(TWO);
        Check.due("0 to 0, 40", x.boat(0, 0, 40), -3);
        Check.due("1 to 0, -2", x.boat(1, 0, -2), -3);
    }

    static void promise10_fewest_ofSeveralTheFirstAsARow() {
        // The night may come ahead of gate 1, or behind it: 1 is ahead of 2 as a row.
        boatIs(Check.canalOf("l1;m00;m11;m01"), 0, 1, 1, 2, 0);
        boatIs(Check.canalOf("l3;m99;m99;m99;m99"), 0, 3, 3, 2, 1, 0, 3, 2, 1, 3, 2);
    }

    static void promise10_eachTimeTheGateBelowItIsOpenedItGoesDown() {
        // Gate 1 gives room for the one below 0; the boat in reach 1 has gone by it at once.
        boatIs(Check.canalOf("l0;m29;m19;m09"), 1, 2, 1);
        boatIs(Check.canalOf("l0;m29;m19;m09"), 0, 2, 0, 1);
        boatIs(Check.canalOf("l0;m29;m09;m09;m09"), 0, 3, 0, 1, 2);
    }

    static void promise10_allReachesAreEmpty() {
        boatIs(Check.canalOf("l1;m00;m09"), 0, 1, 1, 0);
        boatIs(Check.canalOf("l3;m00;m09;m09;m09"), 0, 3, 3, 0, 1, 2);
        Check.due("and it stays so", Check.canalOf("l0;m00;m09;m09;m09").boat(0, 3, -1), NONE);
    }

    static void promise10_aRowOf40IsForgottenWhenAllIsAnew() {
        WaterConsent x = Check.canalOf("l1;m00;m51;m91;m91");
        Check.due("40 acts", x.boat(0, 1, -1), 40);
        x.fill(1, 0);
        boatIs(x, 0, 1, 3, 0);
        x.rain(0);
        Check.due("none without rain", x.boat(0, 1, -1), NONE);
        x.rain(3);
        x.fill(1, 5);
        Check.due("as many with more rain, the one below it is full", x.boat(0, 1, -1), 40);
    }

    static void promise10_nothingIsChanged() {
        WaterConsent x = Check.canalOf("l1;m00;m51;m91;m91");
        WaterConsent twin = Check.canalOf("l1;m00;m51;m91;m91");
        x.boat(0, 1, -1);
        x.boat(0, 3, 5);
        x.boat(2, 3, 39);
        Check.same("all as ahead of it", Snapshot.of(x), Snapshot.of(twin));
    }

    // ---- promise 11: raise

    static void promise11_none_ifItIsSoAlready() {
        WaterConsent x = Check.canalOf("l1;m00;m59;m99");
        raiseIs(x, 1, 0);
        raiseIs(x, 1, 4);
        raiseIs(x, 1, 5);
        raiseIs(x, 2, 9);
        raiseIs(x, 0, 0);
    }

    static void promise11_vAtLeast_oneMoreThanItHas() {
        raiseIs(Check.canalOf("l1;m10;m59"), 1, 6, 0);
        raiseIs(Check.canalOf("l1;m50;m09"), 0, 6, 1);
        // Behind the night it is higher than v.
        raiseIs(Check.canalOf("l3;m50;m09"), 0, 6, 1);
        raiseIs(Check.canalOf("l3;m50;m09"), 0, 8, 1);
        raiseIs(Check.canalOf("l3;m50;m09"), 0, 9, 1, 1);
    }

    static void promise11_atMost40_theLongestThatThereIs() {
        // No level takes more than 36: nine nights, and nine times each of three gates.
        WaterConsent x = Check.canalOf("l1;m09;m09;m09;m09");
        Check.due("acts", x.raise(3, 9, -1), 36);
        Check.due("act 35", x.raise(3, 9, 35), 2);
        Check.due("act 36", x.raise(3, 9, 36), NONE);
        Check.due("act 39", x.raise(3, 9, 39), NONE);
    }

    static void promise11_none_thereAreNoActs() {
        Check.due("no rain, the first one", Check.canalOf("l0;m00;m09").raise(0, 1, -1), NONE);
        Check.due("no water", Check.canalOf("l0;m00;m09").raise(1, 1, -1), NONE);
        Check.due("no consent", Check.canalOf("l3;m90;m00").raise(1, 1, -1), NONE);
        Check.due("up to its want", Check.canalOf("l3;m90;p06").raise(1, 5, -1), 5);
        Check.due("beyond its want", Check.canalOf("l3;m90;p06").raise(1, 6, -1), NONE);
        Check.due("act 0 of none", Check.canalOf("l3;m90;p06").raise(1, 6, 0), NONE);
        Check.due("all the water there is", Check.canalOf("l0;m40;m09").raise(1, 4, -1), 4);
        Check.due("more than there is", Check.canalOf("l0;m40;m09").raise(1, 5, -1), NONE);
    }

    static void promise11_aRowIsOneThatMayBeDone() {
        String[] canals = {"l1;m09;m09;m09;m09", FOUR, "l3;m00;p09;s39;m29", "l2;m12;p97;m08"};
        int[] reach = {3, 3, 2, 2};
        int[] level = {9, 5, 4, 8};
        for (int c = 0; c < canals.length; c++) {
            WaterConsent x = Check.canalOf(canals[c]);
            int n = x.raise(reach[c], level[c], -1);
            x.sheet(0, 0, 40);
            for (int k = 0; k < n; k++) {
                x.put(0, k, x.raise(reach[c], level[c], k));
            }
            Check.due("there are acts", n > 0 ? 1 : 0, 1);
            Check.due("no silence", x.acts(0, 0, 0, n, 1), NONE);
            Check.due("so high", x.acts(0, 0, 0, n, 10 + reach[c]), level[c]);
            Check.due("not so high ahead", x.acts(0, 0, 0, n - 1, 10 + reach[c]) < level[c] ? 1 : 0, 1);
        }
    }

    static void promise11_outside_vFrom0To9() {
        WaterConsent x = Check.canalOf("l1;m00;m09");
        Check.due("v 0", x.raise(0, 0, -1), 0);
        Check.due("v 9", x.raise(0, 9, -1), 9);
        for (int v : new int[] {-1, 10, NONE, LEAST, GREATEST}) {
            Check.due("v " + v, x.raise(0, v, -1), -2);
        }
    }

    static void promise11_outside_kFromLess1To39() {
        WaterConsent x = Check.canalOf("l1;m00;m09");
        Check.due("k -1", x.raise(0, 2, -1), 2);
        Check.due("k 0", x.raise(0, 2, 0), 1);
        Check.due("k 1, the last one", x.raise(0, 2, 1), 1);
        Check.due("k 2, behind the last one", x.raise(0, 2, 2), NONE);
        Check.due("k 39", x.raise(0, 2, 39), NONE);
        for (int k : new int[] {-2, 40, NONE, LEAST, GREATEST}) {
            Check.due("k " + k, x.raise(0, 2, k), -2);
            Check.due("k " + k + ", it is so already", x.raise(0, 0, k), -2);
        }
    }

    static void promise11_unknown_reaches() {
        WaterConsent x = Check.canalOf("l1;m14;p13;s05");
        Check.due("-1", x.raise(-1, 0, -1), -1);
        Check.due("the first", x.raise(0, 0, -1), 0);
        Check.due("the last", x.raise(2, 0, -1), 0);
        Check.due("behind the last", x.raise(3, 0, -1), -1);
        Check.due("the least", x.raise(LEAST, 0, -1), -1);
        Check.due("the greatest", x.raise(GREATEST, 0, -1), -1);
        Check.due("without a canal", new WaterConsent().raise(0, 0, -1), -1);
    }

    static void promise11_unknownAheadOfOutside() {
        WaterConsent x = Check.canalOf(TWO);
        Check.due("v 10", x.raise(2, 10, 0), -1);
        Check.due("k 40", x.raise(-1, 0, 40), -1);
        Check.due("without a canal", new WaterConsent().raise(0, 10, 40), -1);
    }

    static void promise11_fewest_ofSeveralTheFirstAsARow() {
        // A night ahead is as good as gate 0 ahead: 0 is ahead of 1 as a row.
        raiseIs(Check.canalOf("l1;m10;m09"), 1, 1, 0);
        raiseIs(Check.canalOf("l1;m10;m09"), 1, 2, 1, 0, 0);
        raiseIs(Check.canalOf("l2;m10;m09;m09"), 1, 3, 0, 2, 0, 0);
    }

    static void promise11_nights_9AtMostAnd0AtLeast() {
        raiseIs(Check.canalOf("l3;m80;m00"), 0, 9, 1);
        raiseIs(Check.canalOf("l3;m70;m90"), 0, 9, 1);
        // The last one is empty at once: the nights take nothing from it.
        raiseIs(Check.canalOf("l1;m00;m09"), 1, 2, 1, 1, 0, 0);
        // It has 1 left: the night takes that.
        raiseIs(Check.canalOf("l1;m00;m19"), 1, 2, 1, 1, 0, 0);
    }

    static void promise11_nothingIsChanged() {
        WaterConsent x = Check.canalOf("l1;m09;m09;m09;m09");
        WaterConsent twin = Check.canalOf("l1;m09;m09;m09;m09");
        x.raise(3, 9, -1);
        x.raise(0, 9, 3);
        Check.same("all as ahead of it", Snapshot.of(x), Snapshot.of(twin));
    }
}
