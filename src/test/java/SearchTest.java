/** Promises 10 and 11: boat, raise; the rows also against all rows there are, shorter ones and lower acts ahead. */
public final class SearchTest {
    public static void main(String[] args) {
        boat();
        boatRefusals();
        raise();
        raiseRefusals();
        changesAreSeen();
        oneBehindAnother();
        oneBehindAnotherOfFour();
        againstAllRows();
        Check.end();
    }

    private static void rowIs(String call, WaterConsent x, int from, int to, int... acts) {
        Check.due(call + " acts", x.boat(from, to, -1), acts.length);
        for (int k = 0; k < 40; k++) {
            Check.due(call + " act " + k, x.boat(from, to, k), k < acts.length ? acts[k] : -9);
        }
    }

    private static void raiseIs(String call, WaterConsent x, int r, int v, int... acts) {
        Check.due(call + " acts", x.raise(r, v, -1), acts.length);
        for (int k = 0; k < 40; k++) {
            Check.due(call + " act " + k, x.raise(r, v, k), k < acts.length ? acts[k] : -9);
        }
    }

    private static void boat() {
        Check.promise(10);
        WaterConsent x = Check.canalOf("l1;m14;p13;s05;m29");
        rowIs("boat(0, 3)", x, 0, 3, 0, 1, 2);
        rowIs("boat(2, 3)", x, 2, 3, 1, 2);
        x = Check.canalOf("l3;m99;m99;m99;m99");
        long before = Check.state(x);
        rowIs("boat(0, 3)", x, 0, 3, 3, 2, 1, 0, 3, 2, 1, 3, 2);
        Check.due("nothing is changed", Check.state(x), before);
        x = Check.canalOf("l1;m00;m19;m09");
        rowIs("boat(0, 1)", x, 0, 1, 2, 0);
        x = Check.canalOf("l0;m00;m99");
        Check.due("NONE", x.boat(0, 1, -1), -9);
        Check.due("NONE: act 0", x.boat(0, 1, 0), -9);
        Check.due("NONE: act 39", x.boat(0, 1, 39), -9);
        x = Check.canalOf("l1;m00;m00;m09");
        Check.due("NONE: a reach that never consents", x.boat(0, 2, -1), -9);
        x = Check.canalOf("l1;m00;m51;m91;m91");
        Check.due("40 acts", x.boat(0, 1, -1), 40);
        Check.due("40 acts: the one ahead of the last", x.boat(0, 1, 38), 1);
        Check.due("40 acts: the last", x.boat(0, 1, 39), 0);
        x = Check.canalOf("l1;m00;m61;m81;m91");
        Check.due("41 acts would be too many", x.boat(0, 1, -1), -9);
        Check.due("41 acts would be too many", x.boat(0, 1, 0), -9);
    }

    private static void boatRefusals() {
        WaterConsent x = Check.canalOf("l1;m14;p13;s05");
        Check.due("UNKNOWN ahead of STATE", x.boat(3, 0, 40), -1);
        Check.due("UNKNOWN: the second", x.boat(0, 3, 0), -1);
        Check.due("UNKNOWN: -1", x.boat(-1, 1, 0), -1);
        Check.due("UNKNOWN: the second -1", x.boat(0, -1, 0), -1);
        Check.due("STATE ahead of OUTSIDE: the same", x.boat(1, 1, 40), -3);
        Check.due("STATE: higher", x.boat(2, 0, -1), -3);
        Check.due("OUTSIDE: -2", x.boat(0, 1, -2), -2);
        Check.due("OUTSIDE: 40", x.boat(0, 1, 40), -2);
        Check.due("UNKNOWN without a canal", new WaterConsent().boat(0, 1, 0), -1);
    }

    private static void raise() {
        Check.promise(11);
        WaterConsent x = Check.canalOf("l1;m14;p13;s05;m29");
        raiseIs("raise(2, 1)", x, 2, 1, 1);
        raiseIs("raise(2, 2)", x, 2, 2, 0, 1, 1);
        raiseIs("raise(3, 2), it is so", x, 3, 2);
        raiseIs("raise(3, 0), it is so", x, 3, 0);
        raiseIs("raise(0, 9)", x, 0, 9, 3, 3, 3, 3, 3, 3, 3, 3);
        Check.due("NONE: beyond its want", x.raise(2, 3, -1), -9);
        Check.due("17 acts", x.raise(3, 5, -1), 17);
        x = Check.canalOf("l1;m00;m09");
        Check.due("18 acts", x.raise(1, 9, -1), 18);
        x = Check.canalOf("l1;m00;m99;m09;m09");
        Check.due("reach 1 at 9: acts", x.raise(1, 9, -1), 0);
        x = Check.canalOf("l1;m09;m09;m09;m09");
        Check.due("36 acts", x.raise(3, 9, -1), 36);
        Check.due("36 acts: act 8, water that may go on goes on first", x.raise(3, 9, 8), 1);
        Check.due("36 acts: act 26", x.raise(3, 9, 26), 1);
        Check.due("36 acts: act 27", x.raise(3, 9, 27), 2);
        Check.due("36 acts: the last", x.raise(3, 9, 35), 2);
        x = Check.canalOf("l0;m29;m09;m09;m09");
        raiseIs("without rain", x, 3, 2, 0, 0, 1, 1, 2, 2);
        Check.due("without rain: more than there is", x.raise(3, 3, -1), -9);
        x = Check.canalOf("l3;m80;m00");
        raiseIs("9 at most", x, 0, 9, 1);
    }

    private static void raiseRefusals() {
        WaterConsent x = Check.canalOf("l1;m14;p13;s05");
        Check.due("UNKNOWN ahead of OUTSIDE", x.raise(3, 10, 40), -1);
        Check.due("UNKNOWN: -1", x.raise(-1, 0, 0), -1);
        Check.due("OUTSIDE: v 10", x.raise(0, 10, 0), -2);
        Check.due("OUTSIDE: v -1", x.raise(0, -1, 0), -2);
        Check.due("OUTSIDE: v NONE", x.raise(0, -9, 0), -2);
        Check.due("OUTSIDE: k 40", x.raise(0, 0, 40), -2);
        Check.due("OUTSIDE: k -2", x.raise(0, 0, -2), -2);
        Check.due("k 39", x.raise(0, 0, 39), -9);
        Check.due("UNKNOWN without a canal", new WaterConsent().raise(0, 0, 0), -1);
    }

    /** A row once found is not kept beyond a change of what it depends on. */
    private static void changesAreSeen() {
        WaterConsent x = Check.canalOf("l1;m00;m09");
        rowIs("boat(0, 1)", x, 0, 1, 1, 0);
        raiseIs("raise(1, 1)", x, 1, 1, 1, 0);
        raiseIs("raise(1, 2)", x, 1, 2, 1, 1, 0, 0);
        raiseIs("raise(0, 2)", x, 0, 2, 1, 1);
        x.rain(2);
        raiseIs("more rain", x, 0, 2, 1);
        raiseIs("more rain", x, 1, 2, 1, 0, 0);
        x.fill(0, 2);
        raiseIs("a higher level", x, 1, 2, 0, 0);
        x.open(0);
        raiseIs("a gate opened", x, 1, 2, 0);
        x.nights(1);
        raiseIs("a night", x, 1, 2, 0, 0);
        rowIs("boat(0, 1)", x, 0, 1, 0);
        Check.tellCanal(x, "l2;m30;s02");
        Check.due("another canal", x.raise(1, 2, -1), -9);
        Check.due("another canal", x.boat(0, 1, -1), -9);
        Check.tellCanal(x, "l2;m30;m02;m00");
        raiseIs("a night is another act", x, 0, 4, 2);
        x = Check.canalOf("l1;m19;m09;m09;m09");
        raiseIs("all want 9", x, 2, 1, 0, 1);
        Check.tellCanal(x, "l1;m10;m00;m00;m10");
        Check.due("all want 0", x.raise(2, 1, -1), -9);
    }

    /** What one question answers does not depend on the one ahead of it. */
    private static void oneBehindAnother() {
        String[] canals = new String[32];
        for (int k = 0; k < canals.length; k++) {
            canals[k] = "l" + k % 4 + ";m20;m" + k / 4 % 2 + (1 + k / 8 % 2) + (k / 16 == 0 ? "" : ";m00");
        }
        int[] alone = new int[canals.length * 5];
        for (int q = 0; q < alone.length; q++) {
            alone[q] = question(Check.canalOf(canals[q / 5]), q % 5);
        }
        WaterConsent x = new WaterConsent();
        int asked = 0;
        for (int first = 0; first < alone.length; first++) {
            for (int second = 0; second < alone.length; second += 1 + first % 3) {
                asked++;
                x = asked % 10 == 0 ? new WaterConsent() : x;
                Check.tellCanal(x, canals[first / 5]);
                question(x, first % 5);
                if (first / 5 != second / 5) {
                    Check.tellCanal(x, canals[second / 5]);
                }
                Check.promise(second % 5 < 2 ? 10 : 11);
                Check.due("question " + second + " behind " + first, question(x, second % 5), alone[second]);
            }
        }
    }

    /** The same of canals that differ by the last one's limit, by rain, or by a last reach that takes nothing. */
    private static void oneBehindAnotherOfFour() {
        String[] canals = new String[20];
        for (int k = 0; k < 16; k++) {
            canals[k] = "l" + k % 4 + ";m20;m01;m01;m0" + k / 4;
        }
        for (int k = 16; k < 20; k++) {
            canals[k] = "l" + k % 4 + ";m20;m01;m01";
        }
        int[] alone = new int[canals.length * 8];
        for (int q = 0; q < alone.length; q++) {
            alone[q] = questionOfFour(Check.canalOf(canals[q / 8]), q % 8);
        }
        WaterConsent x = new WaterConsent();
        for (int first = 0; first < alone.length; first++) {
            for (int second = 0; second < alone.length; second++) {
                x = second % 10 == 0 ? new WaterConsent() : x;
                Check.tellCanal(x, canals[first / 8]);
                questionOfFour(x, first % 8);
                if (first / 8 != second / 8) {
                    Check.tellCanal(x, canals[second / 8]);
                }
                Check.promise(second % 8 < 3 ? 10 : 11);
                Check.due("question " + second + " behind " + first, questionOfFour(x, second % 8), alone[second]);
            }
        }
    }

    private static int questionOfFour(WaterConsent x, int which) {
        switch (which) {
            case 0:
                return x.boat(0, 1, -1);
            case 1:
                return x.boat(0, 2, -1);
            case 2:
                return x.boat(2, 3, -1);
            case 3:
                return x.raise(0, 2, -1);
            case 4:
                return x.raise(0, 3, -1);
            case 5:
                return x.raise(2, 2, -1);
            case 6:
                return x.raise(3, 1, -1);
            default:
                return x.raise(3, 3, -1);
        }
    }

    private static int question(WaterConsent x, int which) {
        switch (which) {
            case 0:
                return x.boat(0, 1, -1);
            case 1:
                return x.boat(0, 1, 0);
            case 2:
                return x.raise(0, 3, -1);
            case 3:
                return x.raise(1, 2, -1);
            default:
                return x.raise(1, 1, 0);
        }
    }

    private static void againstAllRows() {
        int seed = 12345;
        for (int run = 0; run < 150; run++) {
            StringBuilder text = new StringBuilder("l");
            int count = 2 + run % 3;
            seed = next(seed);
            text.append((char) ('0' + part(seed, 4)));
            for (int r = 0; r < count; r++) {
                seed = next(seed);
                text.append(';').append("mps".charAt(part(seed, 3)));
                seed = next(seed);
                text.append(part(seed, 10) < 6 ? part(seed, 3) : part(seed, 10));
                seed = next(seed);
                text.append(part(seed, 10));
            }
            compareWithAllRows(text.toString());
        }
    }

    private static void compareWithAllRows(String text) {
        WaterConsent x = Check.canalOf(text);
        int count = x.many(0);
        int most = count == 4 ? 5 : 6;
        for (int to = 1; to < count; to++) {
            Check.promise(10);
            compare(text + " boat to " + to, x.boat(0, to, -1), AllRows.first(text, 0, to, -1, -1, most), most);
            int[] row = AllRows.first(text, 0, to, -1, -1, most);
            for (int k = 0; row != null && k < row.length; k++) {
                Check.due(text + " boat to " + to + " act " + k, x.boat(0, to, k), row[k]);
            }
        }
        for (int r = 0; r < count; r++) {
            Check.promise(11);
            for (int v = 0; v <= 9; v += 3) {
                int[] row = AllRows.first(text, 9, 9, r, v, most);
                compare(text + " raise " + r + " to " + v, x.raise(r, v, -1), row, most);
                for (int k = 0; row != null && k < row.length; k++) {
                    Check.due(text + " raise " + r + " to " + v + " act " + k, x.raise(r, v, k), row[k]);
                }
            }
        }
    }

    private static void compare(String call, int acts, int[] row, int most) {
        if (row != null) {
            Check.due(call, acts, row.length);
        } else if (acts != -9 && acts <= most) {
            Check.due(call, acts, -9);
        }
    }

    private static int next(int seed) {
        return seed * 1103515245 + 12345;
    }

    private static int part(int seed, int of) {
        return (seed >>> 12) % of;
    }
}
