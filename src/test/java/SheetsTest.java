/** Promises 18 to 22: sheet, lose, put, cell, copy. */
public final class SheetsTest {
    public static void main(String[] args) {
        sheet();
        lose();
        put();
        cell();
        copy();
        copyRefusals();
        Check.end();
    }

    private static void sheet() {
        Check.promise(18);
        WaterConsent x = new WaterConsent();
        for (int k = 0; k < 4; k++) {
            Check.due("sheet", x.sheet(k, k % 3, 60), 1);
            Check.due("0 at first", x.cell(k, 59, k % 3), 0);
            Check.due("60 cells", x.put(k, 60, 1), Check.INDEX);
            Check.due("put", x.put(k, 59, 7), 1);
        }
        Check.due("anew", x.sheet(0, 2, 60), 1);
        Check.due("0 at first again", x.cell(0, 59, 2), 0);
        Check.due("another keeps its own", x.cell(3, 59, 0), 7);
        Check.due("no cells", x.sheet(0, 2, 0), 1);
        Check.due("a row, but no cell", x.put(0, 0, 1), Check.INDEX);
        Check.due("UNKNOWN ahead of OUTSIDE", x.sheet(4, 3, 61), -1);
        Check.due("UNKNOWN: -1", x.sheet(-1, 0, 1), -1);
        Check.due("OUTSIDE ahead of SIZE: lane 3", x.sheet(1, 3, -1), -2);
        Check.due("OUTSIDE: lane -1", x.sheet(1, -1, 1), -2);
        Check.due("OUTSIDE: 61", x.sheet(1, 0, 61), -2);
        Check.due("OUTSIDE: the greatest", x.sheet(1, 0, Integer.MAX_VALUE), -2);
        Check.due("SIZE: -1", x.sheet(1, 0, -1), Check.SIZE);
        Check.due("fault()", x.fault(), 4);
        Check.due("SIZE: the least", x.sheet(1, 0, Integer.MIN_VALUE), Check.SIZE);
        Check.due("nothing is changed", x.cell(1, 59, 1), 7);
        x.sheet(1, 0, -1);
        Check.due("OUTSIDE clears", x.sheet(1, 0, 61), -2);
        Check.due("fault()", x.fault(), 0);
        x.sheet(1, 0, -1);
        Check.due("UNKNOWN clears", x.sheet(4, 0, 1), -1);
        Check.due("fault()", x.fault(), 0);
        x.sheet(1, 0, -1);
        Check.due("a new row clears", x.sheet(1, 0, 1), 1);
        Check.due("fault()", x.fault(), 0);
    }

    private static void lose() {
        Check.promise(19);
        WaterConsent x = new WaterConsent();
        for (int k = 0; k < 4; k++) {
            Check.due("it had nothing", x.lose(k), 0);
            Check.due("sheet", x.sheet(k, 0, 0), 1);
            Check.due("it had a row", x.lose(k), 1);
            Check.due("it has nothing", x.cell(k, 0, 0), Check.LOST);
            Check.due("fault()", x.fault(), 1);
            Check.due("it had nothing", x.lose(k), 0);
            Check.due("fault() stays", x.fault(), 1);
        }
        Check.due("UNKNOWN: 4", x.lose(4), -1);
        Check.due("UNKNOWN: -1", x.lose(-1), -1);
        Check.due("fault() stays", x.fault(), 1);
    }

    private static void put() {
        Check.promise(20);
        WaterConsent x = new WaterConsent();
        int[] given = {0, 127, 128, -129, 255, 256, 32767, 32768, -32769, 70001, Integer.MAX_VALUE, Integer.MIN_VALUE};
        long[][] kept = {
            {0, 127, -128, 127, -1, 0, -1, 0, -1, 113, -1, 0},
            {0, 127, 128, -129, 255, 256, 32767, -32768, 32767, 4465, -1, 0},
            {0, 127, 128, -129, 255, 256, 32767, 32768, -32769, 70001, Integer.MAX_VALUE, Integer.MIN_VALUE}};
        for (int lane = 0; lane < 3; lane++) {
            Check.row(x, 2, lane, given);
            for (int i = 0; i < given.length; i++) {
                Check.due("lane " + lane + " of " + given[i], x.cell(2, i, lane), kept[lane][i]);
            }
        }
        Check.due("UNKNOWN: 4", x.put(4, 0, 0), -1);
        Check.due("UNKNOWN: -1", x.put(-1, 0, 0), -1);
        Check.due("NULL ahead of INDEX", x.put(1, -1, 0), Check.NULL);
        Check.due("fault()", x.fault(), 1);
        Check.due("UNKNOWN clears", x.put(4, 0, 0), -1);
        Check.due("fault()", x.fault(), 0);
        Check.due("INDEX: -1", x.put(2, -1, 0), Check.INDEX);
        Check.due("INDEX: one beyond", x.put(2, 12, 0), Check.INDEX);
        Check.due("INDEX: the greatest", x.put(2, Integer.MAX_VALUE, 0), Check.INDEX);
        Check.due("fault()", x.fault(), 3);
        Check.due("put clears", x.put(2, 11, 5), 1);
        Check.due("fault()", x.fault(), 0);
        Check.due("the cell", x.cell(2, 11, 2), 5);
        Check.due("the one ahead", x.cell(2, 10, 2), Integer.MAX_VALUE);
    }

    private static void cell() {
        Check.promise(21);
        WaterConsent x = new WaterConsent();
        Check.row(x, 0, 1, 5, -6);
        Check.due("cell 0", x.cell(0, 0, 1), 5);
        Check.due("cell 1", x.cell(0, 1, 1), -6);
        Check.due("fault()", x.fault(), 0);
        Check.due("CAST ahead of INDEX", x.cell(0, 2, 0), Check.LOST);
        Check.due("fault()", x.fault(), 2);
        Check.due("UNKNOWN", x.cell(4, 0, 0), Check.LOST);
        Check.due("fault()", x.fault(), 0);
        for (int lane = 0; lane < 3; lane++) {
            Check.due("NULL ahead of INDEX", x.cell(1, -1, lane), Check.LOST);
            Check.due("fault()", x.fault(), 1);
        }
        Check.due("OUTSIDE: 3", x.cell(1, 0, 3), Check.LOST);
        Check.due("fault()", x.fault(), 0);
        Check.due("INDEX: 2", x.cell(0, 2, 1), Check.LOST);
        Check.due("fault()", x.fault(), 3);
        Check.due("OUTSIDE: -1", x.cell(0, 2, -1), Check.LOST);
        Check.due("fault()", x.fault(), 0);
        Check.due("INDEX: -1", x.cell(0, -1, 1), Check.LOST);
        Check.due("fault()", x.fault(), 3);
        Check.due("UNKNOWN: -1", x.cell(-1, 0, 0), Check.LOST);
        Check.due("fault()", x.fault(), 0);
    }

    private static void cellsAre(WaterConsent x, int k, int lane, int... numbers) {
        for (int i = 0; i < numbers.length; i++) {
            Check.due("cell " + i + " of " + k, x.cell(k, i, lane), numbers[i]);
        }
    }

    private static void copy() {
        Check.promise(22);
        WaterConsent x = new WaterConsent();
        Check.row(x, 0, 1, 1, 2, 3, 4, 5);
        Check.row(x, 1, 1, 9, 9, 9);
        Check.due("to another", x.copy(0, 2, 1, 1, 2), 2);
        cellsAre(x, 1, 1, 9, 3, 4);
        cellsAre(x, 0, 1, 1, 2, 3, 4, 5);
        Check.due("to itself, upwards", x.copy(0, 0, 0, 1, 4), 4);
        cellsAre(x, 0, 1, 1, 1, 2, 3, 4);
        Check.due("to itself, downwards", x.copy(0, 1, 0, 0, 4), 4);
        cellsAre(x, 0, 1, 1, 2, 3, 4, 4);
        Check.due("none, at both ends", x.copy(0, 5, 1, 3, 0), 0);
        Check.due("all", x.copy(1, 0, 0, 2, 3), 3);
        cellsAre(x, 0, 1, 1, 2, 9, 3, 4);
    }

    private static void copyRefusals() {
        WaterConsent x = new WaterConsent();
        Check.row(x, 0, 1, 1, 2, 3);
        Check.row(x, 1, 1, 7, 8);
        Check.row(x, 2, 2, 0);
        Check.due("a fault ahead of it", x.put(3, 0, 0), Check.NULL);
        Check.due("UNKNOWN: the first", x.copy(4, 0, 3, 0, 1), -1);
        Check.due("UNKNOWN clears", x.fault(), 0);
        Check.due("UNKNOWN: the other, ahead of NULL", x.copy(3, 0, 4, 0, 1), -1);
        Check.due("UNKNOWN: -1", x.copy(0, 0, -1, 0, 1), -1);
        Check.due("fault()", x.fault(), 0);
        Check.due("NULL: the first", x.copy(3, -1, 2, 0, 1), Check.NULL);
        Check.due("NULL: the other, ahead of INDEX", x.copy(0, -1, 3, 0, 1), Check.NULL);
        Check.due("fault()", x.fault(), 1);
        Check.due("CAST ahead of INDEX", x.copy(0, -1, 2, 0, 1), Check.CAST);
        Check.due("fault()", x.fault(), 2);
        Check.due("INDEX: i -1", x.copy(0, -1, 1, 0, 0), Check.INDEX);
        Check.due("INDEX: j -1", x.copy(0, 0, 1, -1, 0), Check.INDEX);
        Check.due("INDEX: n -1, no SIZE", x.copy(0, 0, 1, 0, -1), Check.INDEX);
        Check.due("INDEX: n the least", x.copy(0, 0, 1, 0, Integer.MIN_VALUE), Check.INDEX);
        Check.due("INDEX: beyond the first", x.copy(1, 1, 0, 0, 2), Check.INDEX);
        Check.due("INDEX: beyond the other", x.copy(0, 0, 1, 1, 2), Check.INDEX);
        Check.due("INDEX: i beyond, none taken", x.copy(0, 4, 1, 0, 0), Check.INDEX);
        Check.due("INDEX: j beyond, none taken", x.copy(0, 0, 1, 3, 0), Check.INDEX);
        Check.due("INDEX: far beyond", x.copy(0, 1, 1, 1, Integer.MAX_VALUE), Check.INDEX);
        Check.due("INDEX: far beyond", x.copy(0, Integer.MAX_VALUE, 1, 0, 1), Check.INDEX);
        Check.due("fault()", x.fault(), 3);
        cellsAre(x, 0, 1, 1, 2, 3);
        cellsAre(x, 1, 1, 7, 8);
        Check.due("copy clears", x.copy(0, 0, 1, 0, 1), 1);
        Check.due("fault()", x.fault(), 0);
    }
}
