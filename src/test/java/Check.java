/** What the tests share: due answers, and objects with a canal. */
final class Check {
    static final long LOST = Long.MIN_VALUE;
    static final int NULL = -11, CAST = -12, INDEX = -13, SIZE = -14;

    private static int wrong = 0;
    private static String promise = "";

    private Check() {
    }

    static void promise(int number) {
        promise = "promise " + number + ": ";
    }

    /** The name that stands ahead of each answer that is not as due. */
    static void name(String name) {
        promise = name + ": ";
    }

    static void due(String call, long got, long want) {
        if (got != want) {
            wrong++;
            System.out.println(promise + call + " answered " + got + ", due is " + want);
        }
    }

    static void same(String what, String got, String want) {
        if (!got.equals(want)) {
            wrong++;
            System.out.println(promise + what + ": " + got + ", due is " + want);
        }
    }

    static void end() {
        if (wrong != 0) {
            System.out.println(wrong + " answers are not as due");
            System.exit(1);
        }
    }

    /** The numbers as a new row of a sheet. */
    static void row(WaterConsent x, int sheet, int lane, int... numbers) {
        due("sheet", x.sheet(sheet, lane, numbers.length), 1);
        for (int i = 0; i < numbers.length; i++) {
            due("put", x.put(sheet, i, numbers[i]), 1);
        }
    }

    /** The cells of a sheet from the first one on. */
    static void cells(WaterConsent x, int sheet, int lane, long... numbers) {
        for (int i = 0; i < numbers.length; i++) {
            due("cell " + i + " of sheet " + sheet, x.cell(sheet, i, lane), numbers[i]);
        }
    }

    static int[] codes(String text) {
        return text.chars().toArray();
    }

    /** What canal answers to a text, told by sheet 3, which has nothing then. */
    static int tellCanal(WaterConsent x, String text) {
        row(x, 3, 0, codes(text));
        int answer = x.canal(3, 0, 0, text.length());
        x.lose(3);
        return answer;
    }

    static WaterConsent canalOf(String text) {
        WaterConsent x = new WaterConsent();
        due("canal of " + text, tellCanal(x, text), (text.length() - 2) / 4);
        return x;
    }

    /** All of a canal in one number, to see whether a call changed it. */
    static long state(WaterConsent x) {
        long all = x.many(0) * 10L + x.many(1);
        for (int r = 0; r < 4; r++) {
            for (int what = 0; what < 4; what++) {
                all = all * 11 + (r < x.many(0) ? x.ofReach(r, what) : 10);
            }
        }
        return all * 10 + x.many(3);
    }
}
