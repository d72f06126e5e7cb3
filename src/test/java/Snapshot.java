/** All that an object tells of itself, as a text; what it has is used up by that. Some 300 calls at most. */
final class Snapshot {
    private static final int MOST_CELLS = 60;

    private final StringBuilder told = new StringBuilder();
    private final WaterConsent x;

    private Snapshot(WaterConsent x) {
        this.x = x;
    }

    static String of(WaterConsent x) {
        Snapshot s = new Snapshot(x);
        s.tell("trace", x.trace());
        s.canal();
        s.readings();
        for (int k = 0; k < 4; k++) {
            s.sheet(k);
        }
        return s.told.toString();
    }

    private void tell(String what, long answer) {
        told.append(' ').append(what).append(' ').append(answer);
    }

    private void canal() {
        for (int what = 0; what < 4; what++) {
            tell("many", x.many(what));
        }
        for (int r = 0; r < x.many(0); r++) {
            told.append(" reach");
            for (int what = 0; what < 4; what++) {
                tell("", x.ofReach(r, what));
            }
        }
    }

    /** The sets, and then those of ever fewer readings: each one is seen. */
    private void readings() {
        for (int left = x.many(3); left >= 0; left--) {
            told.append(" by ").append(left);
            for (int r = 0; r < x.many(0); r++) {
                tell("", x.limits(r));
                tell("", x.kinds(r));
                tell("", x.levels(r));
            }
            x.back(1);
        }
    }

    private void sheet(int k) {
        told.append(" sheet ").append(k);
        for (int lane = 0; lane < 3; lane++) {
            long cell = x.cell(k, 0, lane);
            tell("lane", x.fault());
            for (int i = 1; x.fault() == 0 && i <= MOST_CELLS; i++) {
                tell("", cell);
                cell = x.cell(k, i, lane);
            }
        }
    }
}
