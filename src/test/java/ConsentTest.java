/** Promises 12 to 17: reading, back, limits, kinds, levels, odds. */
public final class ConsentTest {
    private static final String FOUR = "l1;m14;p13;s05;m29";

    public static void main(String[] args) {
        reading();
        back();
        limits();
        kinds();
        levels();
        readingsOfOthers();
        odds();
        oddsOfAll();
        oddsRefusals();
        Check.end();
    }

    private static void reading() {
        Check.promise(12);
        WaterConsent x = Check.canalOf(FOUR);
        for (int k = 0; k < 8; k++) {
            Check.due("reading " + k, x.reading(k % 4, k == 3 ? -9 : k, k % 2 == 0), k);
            Check.due("how many", x.many(3), k + 1);
        }
        Check.due("FULL", x.reading(0, 0, true), -4);
        Check.due("OUTSIDE ahead of FULL", x.reading(0, 10, true), -2);
        Check.due("UNKNOWN ahead of OUTSIDE", x.reading(4, 10, true), -1);
        Check.due("how many", x.many(3), 8);
        x = Check.canalOf(FOUR);
        Check.due("UNKNOWN: -1", x.reading(-1, 0, true), -1);
        Check.due("OUTSIDE: 10", x.reading(0, 10, true), -2);
        Check.due("OUTSIDE: -1", x.reading(0, -1, true), -2);
        Check.due("OUTSIDE: -8", x.reading(0, -8, true), -2);
        Check.due("9", x.reading(0, 9, false), 0);
        Check.due("0", x.reading(0, 0, true), 1);
        Check.due("UNKNOWN without a canal", new WaterConsent().reading(0, 0, true), -1);
    }

    private static void back() {
        Check.promise(13);
        WaterConsent x = Check.canalOf(FOUR);
        x.reading(0, 2, true);
        x.reading(0, 5, false);
        x.reading(0, 0, false);
        Check.due("limits(0)", x.limits(0), 0);
        Check.due("OUTSIDE: 4", x.back(4), -2);
        Check.due("OUTSIDE: -1", x.back(-1), -2);
        Check.due("back(0)", x.back(0), 3);
        Check.due("back(1)", x.back(1), 2);
        Check.due("limits(0)", x.limits(0), 0b111000);
        Check.due("the number of the next", x.reading(0, 3, true), 2);
        Check.due("limits(0)", x.limits(0), 0b110000);
        Check.due("back(2)", x.back(2), 1);
        Check.due("limits(0)", x.limits(0), 0b1111111000);
        Check.due("back(1)", x.back(1), 0);
        Check.due("limits(0)", x.limits(0), 1023);
        Check.due("OUTSIDE: 1 of none", x.back(1), -2);
        Check.due("back(0) without a canal", new WaterConsent().back(0), 0);
        Check.due("OUTSIDE without a canal", new WaterConsent().back(1), -2);
    }

    private static void limits() {
        Check.promise(14);
        WaterConsent x = Check.canalOf(FOUR);
        for (int r = 0; r < 4; r++) {
            Check.due("without readings", x.limits(r), 1023);
        }
        x.reading(0, -9, true);
        Check.due("mild, at its level 1", x.limits(0), 0b1111111100);
        x.fill(0, 6);
        Check.due("mild, at the level that it has then", x.limits(0), 0b1110000000);
        x.back(1);
        x.reading(1, 1, true);
        x.reading(1, 2, false);
        Check.due("proud", x.limits(1), 0b1000);
        x.fill(1, 9);
        Check.due("a told level stays", x.limits(1), 0b1000);
        x.back(2);
        x.reading(2, 1, false);
        Check.due("sulky", x.limits(2), 0b11111);
        Check.due("the limit that it has is not so: of another one none", x.limits(1), 0);
        Check.due("UNKNOWN: 4", x.limits(4), -1);
        Check.due("UNKNOWN: -1", x.limits(-1), -1);
        Check.due("UNKNOWN without a canal", new WaterConsent().limits(0), -1);
    }

    private static void kinds() {
        Check.promise(15);
        WaterConsent x = Check.canalOf("l0;m45;p45;s45");
        Check.due("without readings", x.kinds(0), 7);
        x.reading(0, 4, true);
        Check.due("mild alone", x.kinds(0), 1);
        x.back(1);
        x.reading(0, 3, true);
        Check.due("mild, proud", x.kinds(0), 3);
        x.back(1);
        x.reading(1, -9, false);
        Check.due("proud, sulky", x.kinds(1), 6);
        x.back(1);
        x.reading(2, 2, false);
        Check.due("sulky alone", x.kinds(2), 4);
        Check.due("UNKNOWN: 3", x.kinds(3), -1);
        Check.due("UNKNOWN: -1", x.kinds(-1), -1);
        Check.due("UNKNOWN without a canal", new WaterConsent().kinds(0), -1);
    }

    private static void levels() {
        Check.promise(16);
        WaterConsent x = Check.canalOf(FOUR);
        x.reading(3, 8, true);
        Check.due("told levels stay", x.levels(3), 1023);
        x.reading(3, -9, true);
        Check.due("mild", x.levels(3), 0b111111111);
        x.back(2);
        x.reading(1, -9, false);
        Check.due("proud", x.levels(1), 0b1111111100);
        Check.due("its own level is not so: of another one none", x.levels(0), 0);
        x.back(1);
        x.reading(2, -9, true);
        Check.due("sulky", x.levels(2), 3);
        Check.due("nothing is changed", x.ofReach(2, 1), 0);
        x.reading(2, 0, false);
        Check.due("a told one that is not so: none", x.levels(2), 0);
        Check.due("UNKNOWN: 4", x.levels(4), -1);
        Check.due("UNKNOWN: -1", x.levels(-1), -1);
        Check.due("UNKNOWN without a canal", new WaterConsent().levels(0), -1);
    }

    private static void readingsOfOthers() {
        Check.promise(14);
        WaterConsent x = Check.canalOf(FOUR);
        x.reading(1, 1, true);
        Check.due("one that is so", x.limits(0), 1023);
        x.reading(1, 0, false);
        Check.due("one that is not: limits", x.limits(0), 0);
        Check.promise(15);
        Check.due("one that is not: kinds", x.kinds(0), 0);
        Check.promise(16);
        Check.due("one that is not: levels", x.levels(0), 0);
        Check.due("one that is not: levels of itself", x.levels(1), 0);
    }

    private static void odds() {
        Check.promise(17);
        WaterConsent x = Check.canalOf(FOUR);
        share("3 nights, 2", x, 3, 2, 7, 8);
        share("3 nights, 4", x, 3, 4, 1, 8);
        share("8 nights, 5", x, 8, 5, 163, 256);
        share("2 nights, 2", x, 2, 2, 3, 4);
        share("8 nights, 9", x, 8, 9, 1, 256);
        share("7 nights, 9", x, 7, 9, 0, 1);
        share("no night, so", x, 0, 1, 1, 1);
        share("no night, not so", x, 0, 2, 0, 1);
        share("0 at least", x, 8, 0, 1, 1);
        x.rain(3);
        share("more rain", x, 1, 4, 1, 2);
        share("9 at most", x, 8, 9, 219, 256);
        x.rain(0);
        share("rain that is none", x, 8, 2, 0, 1);
        Check.due("nothing is changed", x.ofReach(0, 1), 1);
    }

    private static void share(String what, WaterConsent x, int n, int v, int upper, int lower) {
        Check.due(what + ", upper", x.odds(n, v, 0), upper);
        Check.due(what + ", lower", x.odds(n, v, 1), lower);
    }

    private static void oddsOfAll() {
        for (int rain = 0; rain <= 3; rain++) {
            for (int level = 0; level <= 9; level += 3) {
                WaterConsent x = Check.canalOf("l" + rain + ";m" + level + "0;m99");
                for (int n = 0; n <= 8; n++) {
                    for (int v = 0; v <= 9; v += 1 + n % 2) {
                        int upper = good(n, level, rain, v);
                        int lower = 1 << n;
                        while (upper % 2 == 0 && lower > 1) {
                            upper /= 2;
                            lower /= 2;
                        }
                        share("rain " + rain + " level " + level + " n " + n + " v " + v, x, n, v, upper, lower);
                    }
                }
            }
        }
    }

    private static int good(int n, int level, int rain, int v) {
        if (n == 0) {
            return level >= v ? 1 : 0;
        }
        return good(n - 1, level, rain, v) + good(n - 1, Math.min(9, level + rain), rain, v);
    }

    private static void oddsRefusals() {
        WaterConsent x = Check.canalOf(FOUR);
        Check.due("LOST: n 9", x.odds(9, 0, 0), Check.LOST);
        Check.due("LOST: n -1", x.odds(-1, 0, 0), Check.LOST);
        Check.due("LOST: v 10", x.odds(0, 10, 0), Check.LOST);
        Check.due("LOST: v -1", x.odds(0, -1, 0), Check.LOST);
        Check.due("LOST: which 2", x.odds(0, 0, 2), Check.LOST);
        Check.due("LOST: which -1", x.odds(0, 0, -1), Check.LOST);
        Check.due("LOST without a canal", new WaterConsent().odds(0, 0, 0), Check.LOST);
        Check.due("LOST without a canal", new WaterConsent().odds(9, 0, 0), Check.LOST);
    }
}
