/** Goes through all rows of acts, shorter ones ahead, of as long ones lower acts ahead. */
final class AllRows {
    private final int rain;
    private final int[] want;
    private final int count;
    private final int boatTo;
    private final int reach;
    private final int level;

    private AllRows(String text, int boatTo, int reach, int level) {
        this.rain = text.charAt(1) - '0';
        this.count = (text.length() - 2) / 4;
        this.want = new int[count];
        for (int r = 0; r < count; r++) {
            int limit = text.charAt(5 + 4 * r) - '0';
            char kind = text.charAt(3 + 4 * r);
            int proud = Math.max(limit - 1, 0);
            want[r] = kind == 'm' ? limit : kind == 'p' ? proud : proud / 2;
        }
        this.boatTo = boatTo;
        this.reach = reach;
        this.level = level;
    }

    /** The first row by which a boat is at a reach (reach -1), or a reach at a level; null: none of so many acts. */
    static int[] first(String text, int boat, int boatTo, int reach, int level, int most) {
        AllRows rows = new AllRows(text, boatTo, reach, level);
        int[] levels = new int[rows.count];
        for (int r = 0; r < rows.count; r++) {
            levels[r] = text.charAt(4 + 4 * r) - '0';
        }
        for (int length = 0; length <= most; length++) {
            int[] row = new int[length];
            if (rows.leads(levels, boat, row, 0)) {
                return row;
            }
        }
        return null;
    }

    private boolean leads(int[] levels, int boat, int[] row, int done) {
        if (done == row.length) {
            return reach < 0 ? boat == boatTo : levels[reach] >= level;
        }
        for (int act = 0; act < count; act++) {
            int[] then = levels.clone();
            int boatThen = boat;
            if (act == count - 1) {
                then[0] = Math.min(9, then[0] + rain);
                then[act] = Math.max(0, then[act] - 1);
            } else if (then[act] == 0 || then[act + 1] >= want[act + 1]) {
                continue;
            } else {
                then[act]--;
                then[act + 1]++;
                boatThen = boat == act ? boat + 1 : boat;
            }
            row[done] = act;
            if (leads(then, boatThen, row, done + 1)) {
                return true;
            }
        }
        return false;
    }
}
