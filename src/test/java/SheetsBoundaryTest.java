/** Promises 18 to 22, SHEETS: each sentence with a boundary has a test of its own. */
public final class SheetsBoundaryTest {
    private static final int LEAST = Boundaries.LEAST, GREATEST = Boundaries.GREATEST;
    private static final int BYTES = 0, SHORTS = 1, INTS = 2;

    public static void main(String[] args) {
        Boundaries.run(SheetsBoundaryTest.class);
    }

    private static void faultIs(WaterConsent x, String call, long answer, long due) {
        Check.due(call, answer, due);
        Check.due("fault() behind " + call, x.fault(), due <= -11 && due >= -14 ? -10 - due : 0);
    }

    private static void cellFaultIs(WaterConsent x, String call, long answer, int fault) {
        Check.due(call, answer, Check.LOST);
        Check.due("fault() behind " + call, x.fault(), fault);
    }

    /** Sheet 0: bytes 1 2 3; sheet 1: bytes 4 5; sheet 2: shorts 6; sheet 3: nothing. */
    private static WaterConsent withRows() {
        WaterConsent x = new WaterConsent();
        Check.row(x, 0, BYTES, 1, 2, 3);
        Check.row(x, 1, BYTES, 4, 5);
        Check.row(x, 2, SHORTS, 6);
        return x;
    }

    private static void rowsAreAsAhead(WaterConsent x) {
        Check.same("all as ahead of it", Snapshot.of(x), Snapshot.of(withRows()));
    }

    // ---- promise 18: sheet

    static void promise18_unknown_sheetsFrom0To3() {
        WaterConsent x = new WaterConsent();
        for (int k = 0; k < 4; k++) {
            faultIs(x, "sheet " + k, x.sheet(k, 0, 1), 1);
            Check.due("it has a row", x.put(k, 0, 1), 1);
        }
        for (int k : new int[] {-1, 4, LEAST, GREATEST}) {
            faultIs(x, "sheet " + k, x.sheet(k, 0, 1), -1);
        }
    }

    static void promise18_outside_lanesFrom0To2() {
        WaterConsent x = new WaterConsent();
        for (int lane : new int[] {-1, 3, LEAST, GREATEST}) {
            faultIs(x, "lane " + lane, x.sheet(0, lane, 1), -2);
            Check.due("it has nothing still", x.lose(0), 0);
        }
        for (int lane = 0; lane < 3; lane++) {
            faultIs(x, "lane " + lane, x.sheet(0, lane, 1), 1);
            Check.due("a cell of that lane", x.cell(0, 0, lane), 0);
        }
    }

    static void promise18_outside_nAbove60() {
        WaterConsent x = new WaterConsent();
        for (int lane = 0; lane < 3; lane++) {
            faultIs(x, "n 60", x.sheet(0, lane, 60), 1);
            Check.due("the last cell", x.put(0, 59, 7), 1);
            Check.due("the last cell", x.cell(0, 59, lane), 7);
            Check.due("one behind the last", x.put(0, 60, 7), Check.INDEX);
            faultIs(x, "n 61", x.sheet(0, lane, 61), -2);
            faultIs(x, "the greatest n", x.sheet(0, lane, GREATEST), -2);
            Check.due("the last cell stays", x.cell(0, 59, lane), 7);
        }
    }

    static void promise18_size_nBelow0() {
        WaterConsent x = withRows();
        faultIs(x, "n -1", x.sheet(0, 0, -1), Check.SIZE);
        faultIs(x, "n -61", x.sheet(1, 1, -61), Check.SIZE);
        faultIs(x, "the least n", x.sheet(3, 2, LEAST), Check.SIZE);
        rowsAreAsAhead(x);
    }

    static void promise18_aRowOfNoneIsNotNothing() {
        WaterConsent x = withRows();
        faultIs(x, "n 0", x.sheet(0, 2, 0), 1);
        faultIs(x, "INDEX, not NULL", x.put(0, 0, 1), Check.INDEX);
        cellFaultIs(x, "CAST, not NULL", x.cell(0, 0, 0), 2);
        Check.due("it had a row", x.lose(0), 1);
    }

    static void promise18_unknownAheadOfOutsideAndSize() {
        WaterConsent x = new WaterConsent();
        faultIs(x, "lane 3", x.sheet(4, 3, 1), -1);
        faultIs(x, "n 61", x.sheet(-1, 0, 61), -1);
        faultIs(x, "n -1", x.sheet(4, 0, -1), -1);
    }

    static void promise18_outsideAheadOfSize() {
        WaterConsent x = new WaterConsent();
        faultIs(x, "lane 3, n -1", x.sheet(0, 3, -1), -2);
        faultIs(x, "lane -1, n -1", x.sheet(0, -1, -1), -2);
    }

    static void promise18_refused_theOldRowStays() {
        WaterConsent x = withRows();
        x.sheet(0, 3, 1);
        x.sheet(1, 0, 61);
        x.sheet(2, 2, -1);
        x.sheet(4, 0, 1);
        rowsAreAsAhead(x);
    }

    static void promise18_aNewRowIs0AtFirst() {
        WaterConsent x = new WaterConsent();
        x.sheet(0, INTS, 60);
        for (int i = 0; i < 60; i++) {
            x.put(0, i, -1 - i);
        }
        x.sheet(0, INTS, 2);
        Check.cells(x, 0, INTS, 0, 0);
        x.put(0, 1, 5);
        x.sheet(0, INTS, 60);
        for (int i = 0; i < 60; i++) {
            Check.due("cell " + i, x.cell(0, i, INTS), 0);
        }
        x.put(0, 59, 5);
        x.lose(0);
        x.sheet(0, INTS, 60);
        Check.due("behind lose", x.cell(0, 59, INTS), 0);
    }

    static void promise18_aNewRowHasItsOwnLaneAndLength() {
        WaterConsent x = withRows();
        x.sheet(0, INTS, 1);
        cellFaultIs(x, "it is no row of bytes", x.cell(0, 0, BYTES), 2);
        Check.due("one cell", x.put(0, 0, 70001), 1);
        Check.due("no second one", x.put(0, 1, 1), Check.INDEX);
        Check.due("not cut to a byte", x.cell(0, 0, INTS), 70001);
    }

    // ---- promise 19: lose

    static void promise19_1IfItHadARow0IfNot() {
        WaterConsent x = withRows();
        int[] had = {1, 1, 1, 0};
        for (int k = 0; k < 4; k++) {
            Check.due("sheet " + k, x.lose(k), had[k]);
            Check.due("sheet " + k + " again", x.lose(k), 0);
            Check.due("it has nothing", x.put(k, 0, 0), Check.NULL);
        }
    }

    static void promise19_aRowOfNoneIsARow() {
        WaterConsent x = new WaterConsent();
        x.sheet(0, 0, 0);
        Check.due("it had a row", x.lose(0), 1);
        Check.due("it had nothing", x.lose(0), 0);
    }

    static void promise19_unknown_sheetsFrom0To3() {
        WaterConsent x = withRows();
        for (int k : new int[] {-1, 4, LEAST, GREATEST}) {
            Check.due("sheet " + k, x.lose(k), -1);
        }
        rowsAreAsAhead(x);
    }

    static void promise19_ofThatSheetAlone() {
        WaterConsent x = withRows();
        x.lose(1);
        Check.cells(x, 0, BYTES, 1, 2, 3);
        Check.cells(x, 2, SHORTS, 6);
    }

    static void promise19_namesNoFaults() {
        WaterConsent x = withRows();
        x.put(3, 0, 0);
        Check.due("it had a row", x.lose(0), 1);
        Check.due("fault()", x.fault(), 1);
        Check.due("it had nothing", x.lose(3), 0);
        Check.due("fault()", x.fault(), 1);
        Check.due("UNKNOWN", x.lose(4), -1);
        Check.due("fault()", x.fault(), 1);
    }

    // ---- promise 20: put, and what a cell is cut to

    private static void isCutTo(int lane, int v, int kept) {
        WaterConsent x = new WaterConsent();
        x.sheet(0, lane, 1);
        Check.due("put " + v, x.put(0, 0, v), 1);
        Check.due("cell of " + v, x.cell(0, 0, lane), kept);
    }

    static void promise20_cutToABytesSign() {
        int[] given = {127, 128, -128, -129, 255, 256, 383, 384, -1, GREATEST, LEAST};
        int[] kept = {127, -128, -128, 127, -1, 0, 127, -128, -1, -1, 0};
        for (int i = 0; i < given.length; i++) {
            isCutTo(BYTES, given[i], kept[i]);
        }
    }

    static void promise20_cutToAShortsSign() {
        int[] given = {32767, 32768, -32768, -32769, 65535, 65536, 128, -1, GREATEST, LEAST};
        int[] kept = {32767, -32768, -32768, 32767, -1, 0, 128, -1, -1, 0};
        for (int i = 0; i < given.length; i++) {
            isCutTo(SHORTS, given[i], kept[i]);
        }
    }

    static void promise20_intsAreNotCut() {
        for (int v : new int[] {0, -1, 32768, -32769, 65536, GREATEST, LEAST}) {
            isCutTo(INTS, v, v);
        }
    }

    static void promise20_unknown_sheetsFrom0To3() {
        WaterConsent x = withRows();
        for (int k : new int[] {-1, 4, LEAST, GREATEST}) {
            faultIs(x, "sheet " + k, x.put(k, 0, 9), -1);
        }
        rowsAreAsAhead(x);
        Check.row(x, 3, INTS, 1, 2);
        faultIs(x, "sheet 3", x.put(3, 1, 9), 1);
        Check.cells(x, 3, INTS, 1, 9);
    }

    static void promise20_unknownAheadOfNullAndIndex() {
        WaterConsent x = new WaterConsent();
        faultIs(x, "sheet 4, -1", x.put(4, -1, 9), -1);
        faultIs(x, "sheet -1, 60", x.put(-1, 60, 9), -1);
    }

    static void promise20_nullAheadOfIndex() {
        WaterConsent x = withRows();
        faultIs(x, "-1", x.put(3, -1, 9), Check.NULL);
        faultIs(x, "0", x.put(3, 0, 9), Check.NULL);
        faultIs(x, "60", x.put(3, 60, 9), Check.NULL);
        rowsAreAsAhead(x);
    }

    static void promise20_index_iFrom0ToTheLast() {
        WaterConsent x = withRows();
        for (int i : new int[] {-1, 3, 59, 60, LEAST, GREATEST}) {
            faultIs(x, "cell " + i, x.put(0, i, 9), Check.INDEX);
        }
        rowsAreAsAhead(x);
        x = withRows();
        faultIs(x, "the first", x.put(0, 0, 8), 1);
        faultIs(x, "the last", x.put(0, 2, 9), 1);
        Check.cells(x, 0, BYTES, 8, 2, 9);
    }

    static void promise20_index_ofARowOfNone() {
        WaterConsent x = new WaterConsent();
        x.sheet(0, 0, 0);
        faultIs(x, "-1", x.put(0, -1, 9), Check.INDEX);
        faultIs(x, "0", x.put(0, 0, 9), Check.INDEX);
    }

    static void promise20_index_ofARowOfSixty() {
        WaterConsent x = new WaterConsent();
        x.sheet(0, SHORTS, 60);
        faultIs(x, "59", x.put(0, 59, 9), 1);
        faultIs(x, "60", x.put(0, 60, 9), Check.INDEX);
        Check.due("the last", x.cell(0, 59, SHORTS), 9);
    }

    // ---- promise 21: cell

    static void promise21_lost_unknownSheetsFrom0To3() {
        WaterConsent x = withRows();
        for (int k : new int[] {-1, 4, LEAST, GREATEST}) {
            x.put(3, 0, 0);
            cellFaultIs(x, "sheet " + k, x.cell(k, 0, 0), 0);
        }
        Check.row(x, 3, INTS, LEAST);
        faultIs(x, "sheet 3", x.cell(3, 0, INTS), LEAST);
    }

    static void promise21_lost_outsideLanesFrom0To2() {
        WaterConsent x = withRows();
        for (int lane : new int[] {-1, 3, LEAST, GREATEST}) {
            x.put(3, 0, 0);
            cellFaultIs(x, "lane " + lane, x.cell(0, 0, lane), 0);
        }
        for (int lane = 0; lane < 3; lane++) {
            Check.row(x, 3, lane, 7);
            faultIs(x, "lane " + lane, x.cell(3, 0, lane), 7);
        }
    }

    static void promise21_outsideAheadOfFaults() {
        WaterConsent x = withRows();
        cellFaultIs(x, "ahead of NULL", x.cell(3, 0, 3), 0);
        cellFaultIs(x, "ahead of CAST", x.cell(0, 0, -1), 0);
        cellFaultIs(x, "ahead of INDEX", x.cell(0, 3, 3), 0);
    }

    static void promise21_cast_ofEachOtherLaneAndAheadOfIndex() {
        WaterConsent x = new WaterConsent();
        for (int has = 0; has < 3; has++) {
            x.sheet(0, has, 1);
            for (int as = 0; as < 3; as++) {
                if (has == as) {
                    faultIs(x, has + " as it is", x.cell(0, 0, as), 0);
                    cellFaultIs(x, has + ", beyond", x.cell(0, 1, as), 3);
                } else {
                    cellFaultIs(x, has + " as " + as, x.cell(0, 0, as), 2);
                    cellFaultIs(x, has + " as " + as + ", beyond", x.cell(0, 1, as), 2);
                    cellFaultIs(x, has + " as " + as + ", below", x.cell(0, -1, as), 2);
                }
            }
        }
    }

    static void promise21_nothingIsNoCast() {
        WaterConsent x = withRows();
        x.lose(2);
        for (int lane = 0; lane < 3; lane++) {
            cellFaultIs(x, "lane " + lane, x.cell(3, 0, lane), 1);
            cellFaultIs(x, "a lost row, lane " + lane, x.cell(2, 0, lane), 1);
        }
    }

    static void promise21_nullAheadOfIndex() {
        WaterConsent x = withRows();
        cellFaultIs(x, "-1", x.cell(3, -1, 0), 1);
        cellFaultIs(x, "60", x.cell(3, 60, 0), 1);
    }

    static void promise21_index_iFrom0ToTheLast() {
        WaterConsent x = withRows();
        for (int i : new int[] {-1, 3, 59, 60, LEAST, GREATEST}) {
            cellFaultIs(x, "cell " + i, x.cell(0, i, BYTES), 3);
        }
        faultIs(x, "the first", x.cell(0, 0, BYTES), 1);
        faultIs(x, "the last", x.cell(0, 2, BYTES), 3);
        x.sheet(0, BYTES, 0);
        cellFaultIs(x, "of a row of none", x.cell(0, 0, BYTES), 3);
    }

    // ---- promise 22: copy

    static void promise22_unknown_bothSheets() {
        WaterConsent x = withRows();
        for (int k : new int[] {-1, 4, LEAST, GREATEST}) {
            faultIs(x, "from " + k, x.copy(k, 0, 0, 0, 1), -1);
            faultIs(x, "to " + k, x.copy(0, 0, k, 0, 1), -1);
            faultIs(x, "from and to " + k, x.copy(k, 0, k, 0, 1), -1);
        }
        rowsAreAsAhead(x);
    }

    static void promise22_unknownAheadOfFaults() {
        WaterConsent x = withRows();
        faultIs(x, "ahead of NULL", x.copy(3, 0, 4, 0, 1), -1);
        faultIs(x, "ahead of NULL of the other", x.copy(4, 0, 3, 0, 1), -1);
        faultIs(x, "ahead of INDEX", x.copy(0, -1, 4, 0, 1), -1);
        faultIs(x, "ahead of n below 0", x.copy(-1, 0, 0, 0, -1), -1);
    }

    static void promise22_null_theFirstAndTheOther() {
        WaterConsent x = withRows();
        faultIs(x, "the first", x.copy(3, 0, 0, 0, 1), Check.NULL);
        faultIs(x, "the other", x.copy(0, 0, 3, 0, 1), Check.NULL);
        faultIs(x, "both", x.copy(3, 0, 3, 0, 1), Check.NULL);
        faultIs(x, "the first, none taken", x.copy(3, 0, 0, 0, 0), Check.NULL);
        faultIs(x, "the other, none taken", x.copy(0, 0, 3, 0, 0), Check.NULL);
        rowsAreAsAhead(x);
    }

    static void promise22_nullAheadOfCastAndIndex() {
        WaterConsent x = new WaterConsent();
        Check.row(x, 1, SHORTS, 6);
        faultIs(x, "the first, another lane than it had", x.copy(0, 0, 1, 0, 1), Check.NULL);
        faultIs(x, "the other", x.copy(1, 0, 0, 0, 1), Check.NULL);
        faultIs(x, "the first, i -1", x.copy(0, -1, 1, 0, 1), Check.NULL);
        faultIs(x, "the other, i beyond", x.copy(1, 2, 0, 0, 0), Check.NULL);
        faultIs(x, "the other, j -1", x.copy(1, 0, 0, -1, 0), Check.NULL);
        faultIs(x, "the other, n -1", x.copy(1, 0, 0, 0, -1), Check.NULL);
    }

    static void promise22_cast_unlikeLanes() {
        WaterConsent x = new WaterConsent();
        for (int from = 0; from < 3; from++) {
            for (int to = 0; to < 3; to++) {
                Check.row(x, 0, from, 7);
                Check.row(x, 1, to, 8);
                faultIs(x, from + " to " + to, x.copy(0, 0, 1, 0, 1), from == to ? 1 : Check.CAST);
                Check.cells(x, 1, to, from == to ? 7 : 8);
                faultIs(x, from + " to " + to + ", none", x.copy(0, 0, 1, 0, 0), from == to ? 0 : Check.CAST);
            }
        }
    }

    static void promise22_castAheadOfIndex() {
        WaterConsent x = withRows();
        faultIs(x, "i -1", x.copy(0, -1, 2, 0, 1), Check.CAST);
        faultIs(x, "j -1", x.copy(0, 0, 2, -1, 1), Check.CAST);
        faultIs(x, "n -1", x.copy(0, 0, 2, 0, -1), Check.CAST);
        faultIs(x, "beyond", x.copy(0, 3, 2, 1, 1), Check.CAST);
    }

    static void promise22_index_below0() {
        WaterConsent x = withRows();
        faultIs(x, "i -1", x.copy(0, -1, 1, 0, 1), Check.INDEX);
        faultIs(x, "j -1", x.copy(0, 0, 1, -1, 1), Check.INDEX);
        faultIs(x, "n -1, no SIZE", x.copy(0, 0, 1, 0, -1), Check.INDEX);
        faultIs(x, "n -1 from the ends", x.copy(0, 3, 1, 2, -1), Check.INDEX);
        faultIs(x, "the least i", x.copy(0, LEAST, 1, 0, 1), Check.INDEX);
        faultIs(x, "the least j", x.copy(0, 0, 1, LEAST, 1), Check.INDEX);
        faultIs(x, "the least n", x.copy(0, 0, 1, 0, LEAST), Check.INDEX);
        rowsAreAsAhead(x);
    }

    static void promise22_index_beyond() {
        WaterConsent x = withRows();
        faultIs(x, "beyond the first", x.copy(1, 0, 0, 0, 3), Check.INDEX);
        faultIs(x, "beyond the first by i", x.copy(1, 1, 0, 0, 2), Check.INDEX);
        faultIs(x, "beyond the other", x.copy(0, 0, 1, 0, 3), Check.INDEX);
        faultIs(x, "beyond the other by j", x.copy(0, 0, 1, 1, 2), Check.INDEX);
        rowsAreAsAhead(x);
        x = withRows();
        faultIs(x, "all of the first", x.copy(1, 0, 0, 0, 2), 2);
        faultIs(x, "up to both ends", x.copy(0, 2, 1, 1, 1), 1);
        Check.cells(x, 0, BYTES, 4, 5, 3);
        Check.cells(x, 1, BYTES, 4, 3);
    }

    static void promise22_index_ifNoneIsTakenToo() {
        WaterConsent x = withRows();
        faultIs(x, "i -1", x.copy(0, -1, 1, 0, 0), Check.INDEX);
        faultIs(x, "j -1", x.copy(0, 0, 1, -1, 0), Check.INDEX);
        faultIs(x, "i 4", x.copy(0, 4, 1, 0, 0), Check.INDEX);
        faultIs(x, "j 3", x.copy(0, 0, 1, 3, 0), Check.INDEX);
        faultIs(x, "i 3, j 2", x.copy(0, 3, 1, 2, 0), 0);
        faultIs(x, "i 0, j 0", x.copy(0, 0, 1, 0, 0), 0);
        rowsAreAsAhead(x);
        x.sheet(3, BYTES, 0);
        faultIs(x, "a row of none", x.copy(3, 0, 3, 0, 0), 0);
        faultIs(x, "a row of none, i 1", x.copy(3, 1, 3, 0, 0), Check.INDEX);
        faultIs(x, "a row of none, n 1", x.copy(3, 0, 3, 0, 1), Check.INDEX);
    }

    static void promise22_index_sumsThatWrap() {
        WaterConsent x = withRows();
        faultIs(x, "the greatest n", x.copy(0, 1, 1, 1, GREATEST), Check.INDEX);
        faultIs(x, "the greatest i", x.copy(0, GREATEST, 1, 0, 1), Check.INDEX);
        faultIs(x, "the greatest j", x.copy(0, 0, 1, GREATEST, 1), Check.INDEX);
        faultIs(x, "the greatest of all", x.copy(0, GREATEST, 1, GREATEST, GREATEST), Check.INDEX);
        rowsAreAsAhead(x);
    }

    static void promise22_toItself_asTheyWere() {
        WaterConsent x = new WaterConsent();
        Check.row(x, 0, INTS, 1, 2, 3, 4, 5);
        faultIs(x, "upwards", x.copy(0, 0, 0, 1, 4), 4);
        Check.cells(x, 0, INTS, 1, 1, 2, 3, 4);
        Check.row(x, 0, INTS, 1, 2, 3, 4, 5);
        faultIs(x, "downwards", x.copy(0, 1, 0, 0, 4), 4);
        Check.cells(x, 0, INTS, 2, 3, 4, 5, 5);
        faultIs(x, "where they are", x.copy(0, 0, 0, 0, 5), 5);
        Check.cells(x, 0, INTS, 2, 3, 4, 5, 5);
    }

    static void promise22_noneAndAllSixty() {
        WaterConsent x = new WaterConsent();
        x.sheet(0, SHORTS, 60);
        x.sheet(1, SHORTS, 60);
        for (int i = 0; i < 60; i++) {
            x.put(0, i, 1000 + i);
        }
        faultIs(x, "none", x.copy(0, 60, 1, 60, 0), 0);
        Check.due("the last cell", x.cell(1, 59, SHORTS), 0);
        faultIs(x, "61", x.copy(0, 0, 1, 0, 61), Check.INDEX);
        faultIs(x, "60", x.copy(0, 0, 1, 0, 60), 60);
        for (int i = 0; i < 60; i++) {
            Check.due("cell " + i, x.cell(1, i, SHORTS), 1000 + i);
        }
    }

    static void promise22_theFirstStaysAndOthersOfTheOtherStay() {
        WaterConsent x = withRows();
        faultIs(x, "one cell", x.copy(0, 1, 1, 0, 1), 1);
        Check.cells(x, 0, BYTES, 1, 2, 3);
        Check.cells(x, 1, BYTES, 2, 5);
        x.put(0, 1, 77);
        Check.cells(x, 1, BYTES, 2, 5);
    }
}
