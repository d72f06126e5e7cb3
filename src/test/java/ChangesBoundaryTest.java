/** What each call changes, and that it changes no more: all that is told of an object, against one made to be so. */
public final class ChangesBoundaryTest {
    private static final String FOUR = "l1;m14;p13;s05;m29";
    private static final int NONE = -9;

    public static void main(String[] args) {
        Boundaries.run(ChangesBoundaryTest.class);
    }

    /** A canal, bytes 1 2 3 in sheet 0, shorts in sheet 1, a row of none in sheet 2, nothing in sheet 3, a trace. */
    private static WaterConsent inUse(String canal) {
        WaterConsent x = Check.canalOf(canal);
        Check.row(x, 0, 0, 1, 2, 3);
        Check.row(x, 1, 1, 300, -300);
        x.sheet(2, 2, 0);
        x.reading(1, 1, true);
        x.reading(0, NONE, true);
        x.reading(3, 9, false);
        x.tell(1);
        return x;
    }

    private static void isAs(WaterConsent x, WaterConsent due) {
        Check.same("all", Snapshot.of(x), Snapshot.of(due));
    }

    private static void isAsAhead(WaterConsent x) {
        isAs(x, inUse(FOUR));
    }

    // ---- calls that change the canal

    static void promise2_canalChangesNoSheetAndNoTrace() {
        WaterConsent x = inUse("l3;s98;p76");
        x.lose(2);
        Check.due("canal", Check.tellCanal(x, FOUR), 4);
        x.sheet(2, 2, 0);
        x.reading(1, 1, true);
        x.reading(0, NONE, true);
        x.reading(3, 9, false);
        isAsAhead(x);
    }

    static void promise4_fillChangesThatLevelAlone() {
        String[] then = {"l1;m74;p13;s05;m29", "l1;m14;p73;s05;m29", "l1;m14;p13;s75;m29", "l1;m14;p13;s05;m79"};
        int[] was = {1, 1, 0, 2};
        for (int r = 0; r < 4; r++) {
            WaterConsent x = inUse(FOUR);
            Check.due("what it was", x.fill(r, 7), was[r]);
            isAs(x, inUse(then[r]));
        }
    }

    static void promise4_fillToWhatItIsChangesNothing() {
        WaterConsent x = inUse(FOUR);
        Check.due("what it was", x.fill(3, 2), 2);
        isAsAhead(x);
    }

    static void promise5_rainChangesRainAlone() {
        for (int v = 0; v <= 3; v++) {
            WaterConsent x = inUse(FOUR);
            Check.due("what it was", x.rain(v), 1);
            isAs(x, inUse("l" + v + FOUR.substring(2)));
        }
    }

    static void promise7_openChangesTwoLevelsAlone() {
        String[] then = {"l1;m19;m39;m29;m29", "l1;m29;m19;m39;m29", "l1;m29;m29;m19;m39"};
        for (int g = 0; g < 3; g++) {
            WaterConsent x = inUse("l1;m29;m29;m29;m29");
            Check.due("gate " + g, x.open(g), 3);
            isAs(x, inUse(then[g]));
        }
    }

    static void promise8_nightsChangeTwoLevelsAlone() {
        WaterConsent x = inUse(FOUR);
        Check.due("no nights", x.nights(0), 1);
        isAsAhead(x);
        x = inUse(FOUR);
        Check.due("one night", x.nights(1), 2);
        isAs(x, inUse("l1;m24;p13;s05;m19"));
        x = inUse(FOUR);
        Check.due("40 nights", x.nights(40), 9);
        isAs(x, inUse("l1;m94;p13;s05;m09"));
    }

    static void promise8_nightsOneBehindAnother() {
        for (int n = 0; n <= 40; n++) {
            WaterConsent one = Check.canalOf("l2;m03;m55;m97");
            WaterConsent other = Check.canalOf("l2;m03;m55;m97");
            int level = 0;
            for (int night = 0; night < n; night++) {
                level = other.nights(1);
            }
            Check.due(n + " nights", one.nights(n), level);
            Check.due("the last level", one.ofReach(2, 1), other.ofReach(2, 1));
        }
    }

    // ---- calls that change readings

    static void promise12_readingChangesReadingsAlone() {
        WaterConsent x = inUse(FOUR);
        Check.due("the fourth", x.reading(2, NONE, false), 3);
        Check.due("back", x.back(1), 3);
        isAsAhead(x);
        Check.due("readings that are kept though they are not so", inUse("l1;m90;p90;s90;m09").many(3), 3);
    }

    static void promise13_backChangesReadingsAlone() {
        WaterConsent x = inUse(FOUR);
        Check.due("none", x.back(0), 3);
        isAsAhead(x);
        x = inUse(FOUR);
        Check.due("all", x.back(3), 0);
        x.reading(1, 1, true);
        x.reading(0, NONE, true);
        x.reading(3, 9, false);
        isAsAhead(x);
    }

    static void promise12_readingsStayByAllCallsButCanalAndBack() {
        WaterConsent x = inUse(FOUR);
        x.fill(0, 3);
        x.rain(0);
        x.open(0);
        x.nights(3);
        x.sheet(0, 0, 5);
        x.lose(0);
        x.put(1, 0, 1);
        x.copy(1, 0, 1, 1, 1);
        x.flatter(0);
        x.as(0, 2);
        Check.due("readings", x.many(3), 3);
        Check.due("limits", x.limits(1), 0b1111111000);
        Check.due("the next one", x.reading(0, 0, true), 3);
    }

    // ---- calls that change sheets

    private static WaterConsent withRow(int lane, int... numbers) {
        WaterConsent x = inUse(FOUR);
        x.lose(0);
        Check.row(x, 0, lane, numbers);
        return x;
    }

    static void promise18_sheetChangesThatSheetAlone() {
        WaterConsent x = inUse(FOUR);
        Check.due("a new row", x.sheet(0, 2, 2), 1);
        isAs(x, withRow(2, 0, 0));
        x = inUse(FOUR);
        Check.due("a new row as long", x.sheet(0, 0, 3), 1);
        isAs(x, withRow(0, 0, 0, 0));
    }

    static void promise19_loseChangesThatSheetAlone() {
        WaterConsent x = inUse(FOUR);
        Check.due("it had nothing", x.lose(3), 0);
        isAsAhead(x);
        x = inUse(FOUR);
        Check.due("it had a row", x.lose(0), 1);
        Check.row(x, 0, 0, 1, 2, 3);
        isAsAhead(x);
    }

    static void promise20_putChangesThatCellAlone() {
        int[][] then = {{9, 2, 3}, {1, 9, 3}, {1, 2, 9}};
        for (int i = 0; i < 3; i++) {
            WaterConsent x = inUse(FOUR);
            Check.due("put", x.put(0, i, 9), 1);
            isAs(x, withRow(0, then[i]));
        }
    }

    static void promise22_copyChangesThoseCellsAlone() {
        WaterConsent x = inUse(FOUR);
        Check.due("none", x.copy(0, 3, 0, 0, 0), 0);
        isAsAhead(x);
        x = inUse(FOUR);
        Check.due("to itself", x.copy(0, 0, 0, 1, 2), 2);
        isAs(x, withRow(0, 1, 1, 2));
        x = inUse(FOUR);
        Check.row(x, 3, 0, 7, 8, 9);
        Check.due("from another one", x.copy(3, 1, 0, 0, 2), 2);
        x.lose(3);
        isAs(x, withRow(0, 8, 9, 3));
    }

    /** A canal is made of what the cells were: what comes to them later does not change it. */
    static void promise20_putDoesNotChangeTheCanal() {
        WaterConsent x = new WaterConsent();
        Check.row(x, 0, 0, Check.codes(FOUR));
        Check.due("canal", x.canal(0, 0, 0, 18), 4);
        long before = Check.state(x);
        for (int i = 0; i < 18; i++) {
            x.put(0, i, '9');
        }
        x.sheet(0, 0, 1);
        x.lose(0);
        Check.due("the canal", Check.state(x), before);
    }

    // ---- calls that change the trace

    private static String withoutTrace(WaterConsent x) {
        return Snapshot.of(x).replaceFirst(" trace -?\\d+ ", "");
    }

    static void promise23_tellChangesTraceAlone() {
        for (int r = 0; r < 4; r++) {
            WaterConsent x = inUse(FOUR);
            int trace = x.trace();
            x.tell(r);
            Check.due("another trace", x.trace() == trace ? 1 : 0, 0);
            Check.same("all but the trace", withoutTrace(x), withoutTrace(inUse(FOUR)));
        }
    }

    static void promise24_flatterChangesTraceAlone() {
        for (int r = 0; r < 4; r++) {
            WaterConsent x = inUse(FOUR);
            int trace = x.trace();
            x.flatter(r);
            Check.due("one body more", x.trace(), trace * 31 + (r == 2 ? 5 : 4));
            Check.same("all but the trace", withoutTrace(x), withoutTrace(inUse(FOUR)));
        }
    }

    // ---- calls that change nothing

    private interface Call {
        long answer(WaterConsent x);
    }

    private static void changeNothing(long due, Call... calls) {
        for (Call call : calls) {
            WaterConsent x = inUse(FOUR);
            Check.due("answer", call.answer(x), due);
            Check.due("and once more", call.answer(x), due);
            isAsAhead(x);
        }
    }

    static void promise3_ofReachChangesNothing() {
        changeNothing(2, x -> x.ofReach(2, 0), x -> x.ofReach(3, 1), x -> x.ofReach(2, 3));
        changeNothing(9, x -> x.ofReach(3, 2));
    }

    static void promise6_gatesChangeNothing() {
        changeNothing(3, x -> x.gates());
    }

    static void promise9_actsChangeNothing() {
        // Sheet 0 is: gates 1 and 2, a night.
        changeNothing(4, x -> x.acts(0, 0, 0, 3, 0));
        changeNothing(NONE, x -> x.acts(0, 0, 0, 3, 1));
        changeNothing(2, x -> x.acts(0, 0, 0, 3, 2), x -> x.acts(0, 0, 0, 3, 10), x -> x.acts(0, 0, 0, 3, 13));
        changeNothing(-100, x -> x.acts(0, 0, 1, 2, 0));
    }

    static void promise10_boatChangesNothing() {
        changeNothing(3, x -> x.boat(0, 3, -1));
        changeNothing(NONE, x -> x.boat(0, 3, 39));
    }

    static void promise11_raiseChangesNothing() {
        changeNothing(8, x -> x.raise(0, 9, -1));
        changeNothing(3, x -> x.raise(0, 9, 7));
        changeNothing(0, x -> x.raise(0, 1, -1));
    }

    static void promise14_15_16_setsChangeNothing() {
        changeNothing(0b1111111000, x -> x.limits(1));
        changeNothing(0b011, x -> x.kinds(1));
        changeNothing(0b1111, x -> x.levels(0));
    }

    static void promise17_oddsChangeNothing() {
        changeNothing(4, x -> x.odds(2, 2, 1));
        changeNothing(3, x -> x.odds(2, 2, 0));
    }

    static void promise21_cellChangesNothing() {
        changeNothing(-300, x -> x.cell(1, 1, 1));
        changeNothing(3, x -> x.cell(0, 2, 0));
    }

    static void promise25_asChangesNothing() {
        changeNothing(1, x -> x.as(2, 1));
        changeNothing(Check.CAST, x -> x.as(0, 1));
    }

    static void promise26_27_28_traceFaultAndManyChangeNothing() {
        changeNothing(63, x -> x.trace());
        changeNothing(0, x -> x.fault());
        changeNothing(4, x -> x.many(0), x -> x.many(2));
        changeNothing(3, x -> x.many(3));
    }
}
