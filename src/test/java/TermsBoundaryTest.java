import java.lang.reflect.Modifier;
import java.util.ArrayList;
import java.util.List;

/** The public face, the number of calls, and what the terms tell of REFUSALS and FAULTS of all calls. */
public final class TermsBoundaryTest {
    private static final String FOUR = "l1;m14;p13;s05;m29";
    private static final int LEAST = Boundaries.LEAST, GREATEST = Boundaries.GREATEST;
    private static final int CALLS = 512;

    public static void main(String[] args) {
        Boundaries.run(TermsBoundaryTest.class);
    }

    // ---- the public face

    static void terms_face_constants() {
        Check.due("UNKNOWN", WaterConsent.UNKNOWN, -1);
        Check.due("OUTSIDE", WaterConsent.OUTSIDE, -2);
        Check.due("STATE", WaterConsent.STATE, -3);
        Check.due("FULL", WaterConsent.FULL, -4);
        Check.due("NONE", WaterConsent.NONE, -9);
        Check.due("LOST", WaterConsent.LOST, LEAST * 4294967296L);
    }

    static void terms_face_typesOfTheConstants() throws NoSuchFieldException {
        for (String name : new String[] {"UNKNOWN", "OUTSIDE", "STATE", "FULL", "NONE", "LOST"}) {
            java.lang.reflect.Field field = WaterConsent.class.getField(name);
            int open = Modifier.PUBLIC | Modifier.STATIC | Modifier.FINAL;
            Check.due(name + " is public static final", field.getModifiers(), open);
            Check.same(name, field.getType().getName(), name.equals("LOST") ? "long" : "int");
        }
        Check.due("constants and no more", WaterConsent.class.getFields().length, 6);
    }

    static void terms_face_aClassWithoutAPackage() {
        Check.same("its package", WaterConsent.class.getPackageName(), "");
        Check.due("public final", WaterConsent.class.getModifiers(), Modifier.PUBLIC | Modifier.FINAL);
        Check.same("above it", WaterConsent.class.getSuperclass().getName(), "java.lang.Object");
        Check.due("interfaces", WaterConsent.class.getInterfaces().length, 0);
    }

    static void terms_face_constantsAreWhatIsAnswered() {
        WaterConsent x = new WaterConsent();
        Check.due("UNKNOWN", x.tell(0), WaterConsent.UNKNOWN);
        Check.due("OUTSIDE", x.many(4), WaterConsent.OUTSIDE);
        Check.due("STATE", x.gates(), WaterConsent.STATE);
        Check.due("LOST of odds", x.odds(0, 0, 0), WaterConsent.LOST);
        Check.due("LOST of cell", x.cell(0, 0, 0), WaterConsent.LOST);
        Check.tellCanal(x, "l0;m00;m00");
        Check.due("NONE of boat", x.boat(0, 1, -1), WaterConsent.NONE);
        Check.due("NONE of raise", x.raise(0, 1, -1), WaterConsent.NONE);
        x.sheet(0, 0, 0);
        Check.due("NONE of acts", x.acts(0, 0, 0, 0, 1), WaterConsent.NONE);
        for (int k = 0; k < 8; k++) {
            Check.due("NONE told", x.reading(0, WaterConsent.NONE, false), k);
        }
        Check.due("FULL", x.reading(0, WaterConsent.NONE, false), WaterConsent.FULL);
    }

    // ---- what it is: at most 512 calls

    static void terms_calls_the512thCreatesARowStill() {
        WaterConsent x = new WaterConsent();
        for (int call = 1; call <= CALLS; call++) {
            Check.due("call " + call, x.sheet(call % 4, call % 3, call % 61), 1);
        }
    }

    static void terms_calls_the512thTakesACanalStill() {
        WaterConsent x = Check.canalOf(FOUR);
        Check.row(x, 0, 0, Check.codes(FOUR));
        for (int call = 41; call <= CALLS; call++) {
            int n = 10 + 4 * (call % 3);
            Check.due("call " + call, x.canal(0, 0, 0, n), (n - 2) / 4);
        }
    }

    static void terms_calls_the512thFindsARowStill() {
        WaterConsent x = Check.canalOf("l1;m00;m51;m91;m91");
        for (int call = 22; call <= CALLS; call++) {
            int goal = call % 3;
            int answer = goal == 0 ? x.boat(0, 1, -1) : goal == 1 ? x.boat(0, 1, 39) : x.raise(0, 9, -1);
            Check.due("call " + call, answer, goal == 0 ? 40 : goal == 1 ? 0 : 9);
        }
    }

    static void terms_calls_the512thLeavesItsNumberStill() {
        WaterConsent x = Check.canalOf(FOUR);
        int trace = 0;
        for (int call = 22; call <= CALLS - 1; call++) {
            Check.due("call " + call, x.flatter(call % 2 * 2), call % 2 == 0 ? 0 : 70);
            trace = trace * 31 + (call % 2 == 0 ? 4 : 5);
        }
        Check.due("the last call", x.trace(), trace);
    }

    static void terms_calls_the512thReadsStill() {
        WaterConsent x = Check.canalOf(FOUR);
        for (int call = 22; call <= CALLS - 1; call += 2) {
            Check.due("call " + call, x.reading(0, 0, true), 0);
            Check.due("call " + (call + 1), x.back(1), 0);
        }
        Check.due("the last call", x.many(3), 0);
    }

    /** What they answer is free; the rules of the language ask that none throws. */
    static void terms_calls_behindThe512thNoneThrows() {
        WaterConsent x = Check.canalOf(FOUR);
        Check.row(x, 0, 0, 0, 1, 2, 3);
        for (int call = 0; call < 2000; call++) {
            int far = call % 11 == 0 ? LEAST : call % 13 == 0 ? GREATEST : call % 7 - 1;
            long[] answers = {x.canal(far, 0, far, far), x.ofReach(far, far), x.fill(far, call % 10), x.rain(far),
                x.gates(), x.open(far), x.nights(call % 2), x.acts(0, 0, far, far, far), x.boat(far, 3, far),
                x.raise(far, call % 10, far), x.reading(far, far, true), x.back(far), x.limits(far), x.kinds(far),
                x.levels(far), x.odds(far, far, far), x.sheet(call % 3 + 1, call % 3, far), x.lose(3), x.put(far, far, far),
                x.cell(far, far, call % 3), x.copy(far, far, 0, far, far), x.tell(far), x.flatter(far), x.as(far, far),
                x.trace(), x.fault(), x.many(far)};
            Check.due("answers", answers.length, 27);
        }
    }

    // ---- refusals and faults: what they leave as it was

    /** Four reaches, two readings, a trace, a full and a short row, a row of none, nothing; fault() tells 2. */
    private static WaterConsent inUse() {
        WaterConsent x = Check.canalOf(FOUR);
        Check.row(x, 0, 0, 3, 2, -1, 9);
        Check.row(x, 1, 1, 300, -300);
        x.sheet(2, 2, 0);
        x.fill(3, 9);
        x.reading(0, 3, true);
        x.reading(2, -9, true);
        x.tell(2);
        Check.due("a fault", x.as(0, 2), Check.CAST);
        return x;
    }

    /** A call on an object in use: what it answers, what fault() tells then, and that all is as it was. */
    private interface Call {
        long answer(WaterConsent x);
    }

    private static final class Refused {
        final String name;
        final Call call;
        final long answer;
        final int fault;

        Refused(String name, Call call, long answer, int fault) {
            this.name = name;
            this.call = call;
            this.answer = answer;
            this.fault = fault;
        }
    }

    private static void changeNothing(List<Refused> calls) {
        String due = Snapshot.of(inUse());
        for (Refused refused : calls) {
            WaterConsent x = inUse();
            Check.due(refused.name, refused.call.answer(x), refused.answer);
            Check.due("fault() behind " + refused.name, x.fault(), refused.fault);
            Check.same("all behind " + refused.name, Snapshot.of(x), due);
        }
    }

    private static void add(List<Refused> calls, String name, Call call, long answer, int fault) {
        calls.add(new Refused(name, call, answer, fault));
    }

    static void terms_refusals_changeNothing_ofCallsThatNameNoFaults() {
        List<Refused> calls = new ArrayList<>();
        for (int far : new int[] {-1, 4, LEAST, GREATEST}) {
            add(calls, "ofReach " + far, x -> x.ofReach(far, 0), -1, 2);
            add(calls, "ofReach of " + far, x -> x.ofReach(0, far), -2, 2);
            add(calls, "fill " + far, x -> x.fill(far, 0), -1, 2);
            add(calls, "rain " + far, x -> x.rain(far), -2, 2);
            add(calls, "open " + far, x -> x.open(far), -1, 2);
            add(calls, "boat from " + far, x -> x.boat(far, 3, 0), -1, 2);
            add(calls, "boat to " + far, x -> x.boat(0, far, 0), -1, 2);
            add(calls, "raise " + far, x -> x.raise(far, 0, 0), -1, 2);
            add(calls, "reading of " + far, x -> x.reading(far, 0, true), -1, 2);
            add(calls, "back " + far, x -> x.back(far), -2, 2);
            add(calls, "limits " + far, x -> x.limits(far), -1, 2);
            add(calls, "kinds " + far, x -> x.kinds(far), -1, 2);
            add(calls, "levels " + far, x -> x.levels(far), -1, 2);
            add(calls, "odds, which " + far, x -> x.odds(0, 0, far), Check.LOST, 2);
            add(calls, "lose " + far, x -> x.lose(far), -1, 2);
            add(calls, "tell " + far, x -> x.tell(far), -1, 2);
            add(calls, "flatter " + far, x -> x.flatter(far), -1, 2);
            add(calls, "many " + far, x -> x.many(far), -2, 2);
        }
        for (int far : new int[] {-1, 10, LEAST, GREATEST}) {
            add(calls, "fill to " + far, x -> x.fill(0, far), -2, 2);
            add(calls, "raise to " + far, x -> x.raise(0, far, 0), -2, 2);
            add(calls, "reading at " + far, x -> x.reading(0, far, true), -2, 2);
            add(calls, "odds of n " + far, x -> x.odds(far, 0, 0), Check.LOST, 2);
            add(calls, "odds of v " + far, x -> x.odds(0, far, 0), Check.LOST, 2);
        }
        add(calls, "open, no consent", x -> x.open(2), -3, 2);
        add(calls, "nights 41", x -> x.nights(41), -2, 2);
        add(calls, "nights -1", x -> x.nights(-1), -2, 2);
        add(calls, "boat, not lower", x -> x.boat(3, 3, 0), -3, 2);
        add(calls, "boat, k 40", x -> x.boat(0, 3, 40), -2, 2);
        add(calls, "boat, k -2", x -> x.boat(0, 3, -2), -2, 2);
        add(calls, "raise, k 40", x -> x.raise(0, 0, 40), -2, 2);
        add(calls, "raise, k -2", x -> x.raise(0, 0, -2), -2, 2);
        add(calls, "back 3 of 2", x -> x.back(3), -2, 2);
        changeNothing(calls);
    }

    static void terms_refusals_changeNothingButFault_ofCallsThatNameFaults() {
        List<Refused> calls = new ArrayList<>();
        for (int far : new int[] {-1, 4, LEAST, GREATEST}) {
            add(calls, "canal of sheet " + far, x -> x.canal(far, 0, 0, 4), -1, 0);
            add(calls, "canal of lane " + far, x -> x.canal(0, far, 0, 4), -2, 0);
            add(calls, "acts of sheet " + far, x -> x.acts(far, 0, 0, 2, 0), -1, 0);
            add(calls, "acts of lane " + far, x -> x.acts(0, far, 0, 2, 0), -2, 0);
            add(calls, "acts, what " + far, x -> x.acts(0, 0, 0, 2, far), -2, 0);
            add(calls, "sheet " + far, x -> x.sheet(far, 0, 4), -1, 0);
            add(calls, "sheet of lane " + far, x -> x.sheet(0, far, 4), -2, 0);
            add(calls, "put in " + far, x -> x.put(far, 0, 1), -1, 0);
            add(calls, "cell of " + far, x -> x.cell(far, 0, 0), Check.LOST, 0);
            add(calls, "cell of lane " + far, x -> x.cell(0, 0, far), Check.LOST, 0);
            add(calls, "copy from " + far, x -> x.copy(far, 0, 0, 0, 1), -1, 0);
            add(calls, "copy to " + far, x -> x.copy(0, 0, far, 0, 1), -1, 0);
            add(calls, "reach " + far + " as", x -> x.as(far, 0), -1, 0);
            add(calls, "as " + far, x -> x.as(0, far), -2, 0);
        }
        add(calls, "acts, n -1", x -> x.acts(0, 0, 0, -1, 0), -2, 0);
        add(calls, "acts, n 41", x -> x.acts(0, 0, 0, 41, 0), -2, 0);
        add(calls, "acts, no act", x -> x.acts(0, 0, 0, 3, 0), -2, 0);
        add(calls, "acts, a silence", x -> x.acts(0, 0, 0, 2, 0), -101, 0);
        add(calls, "sheet of 61", x -> x.sheet(0, 0, 61), -2, 0);
        add(calls, "canal, a first fault", x -> x.canal(0, 0, 0, 4), -100, 0);
        changeNothing(calls);
    }

    static void terms_faults_changeNothing() {
        List<Refused> calls = new ArrayList<>();
        for (int far : new int[] {-1, 4, 60, LEAST, GREATEST}) {
            add(calls, "put at " + far, x -> x.put(0, far, 1), -13, 3);
            add(calls, "cell at " + far, x -> x.cell(0, far, 0), Check.LOST, 3);
            add(calls, "canal from " + far, x -> x.canal(0, 0, far, 1), -13, 3);
            add(calls, "acts from " + far, x -> x.acts(0, 0, far, 1, 0), -13, 3);
            add(calls, "copy from " + far, x -> x.copy(0, far, 0, 0, 1), -13, 3);
            add(calls, "copy to " + far, x -> x.copy(0, 0, 0, far, 1), -13, 3);
        }
        for (int below : new int[] {-1, LEAST}) {
            add(calls, "canal of n " + below, x -> x.canal(0, 0, 0, below), -14, 4);
            add(calls, "sheet of n " + below, x -> x.sheet(0, 2, below), -14, 4);
            add(calls, "copy of n " + below, x -> x.copy(0, 0, 0, 1, below), -13, 3);
        }
        add(calls, "canal of nothing", x -> x.canal(3, 0, 0, 4), -11, 1);
        add(calls, "acts of nothing", x -> x.acts(3, 0, 0, 1, 0), -11, 1);
        add(calls, "put in nothing", x -> x.put(3, 0, 1), -11, 1);
        add(calls, "cell of nothing", x -> x.cell(3, 0, 0), Check.LOST, 1);
        add(calls, "copy from nothing", x -> x.copy(3, 0, 0, 0, 1), -11, 1);
        add(calls, "copy to nothing", x -> x.copy(0, 0, 3, 0, 1), -11, 1);
        add(calls, "canal of another lane", x -> x.canal(0, 1, 0, 4), -12, 2);
        add(calls, "acts of another lane", x -> x.acts(0, 2, 0, 1, 0), -12, 2);
        add(calls, "cell of another lane", x -> x.cell(1, 0, 0), Check.LOST, 2);
        add(calls, "copy to another lane", x -> x.copy(0, 0, 1, 0, 1), -12, 2);
        add(calls, "a mild one as a proud one", x -> x.as(0, 1), -12, 2);
        changeNothing(calls);
    }

    static void terms_refusals_withoutACanalChangeNothing() {
        Call[] calls = {x -> x.rain(0), x -> x.gates(), x -> x.nights(0), x -> x.acts(0, 0, 0, 0, 0),
            x -> x.ofReach(0, 0), x -> x.fill(0, 0), x -> x.open(0), x -> x.boat(0, 1, 0), x -> x.raise(0, 0, 0),
            x -> x.reading(0, 0, true), x -> x.limits(0), x -> x.kinds(0), x -> x.levels(0), x -> x.odds(0, 0, 0),
            x -> x.tell(0), x -> x.flatter(0), x -> x.as(0, 0)};
        long[] due = {-3, -3, -3, -3, -1, -1, -1, -1, -1, -1, -1, -1, -1, Check.LOST, -1, -1, -1};
        String asNew = Snapshot.of(new WaterConsent());
        for (int c = 0; c < calls.length; c++) {
            WaterConsent x = new WaterConsent();
            Check.due("call " + c, calls[c].answer(x), due[c]);
            Check.due("fault() behind call " + c, x.fault(), 0);
            Check.same("all behind call " + c, Snapshot.of(x), asNew);
        }
    }

    // ---- faults: their numbers

    static void terms_faults_answer10LessTheirNumber() {
        WaterConsent x = new WaterConsent();
        Check.due("NULL", x.put(0, 0, 0), -11);
        Check.due("it is 1", x.fault(), 1);
        x.sheet(0, 0, 1);
        Check.due("CAST", x.canal(0, 1, 0, 0), -12);
        Check.due("it is 2", x.fault(), 2);
        Check.due("INDEX", x.put(0, 1, 0), -13);
        Check.due("it is 3", x.fault(), 3);
        Check.due("SIZE", x.sheet(0, 0, -1), -14);
        Check.due("it is 4", x.fault(), 4);
    }

    static void terms_faults_lostWhereALongIsAnswered() {
        WaterConsent x = new WaterConsent();
        Check.due("NULL", x.cell(0, 0, 0), Check.LOST);
        Check.due("it is 1", x.fault(), 1);
        x.sheet(0, 0, 1);
        Check.due("CAST", x.cell(0, 0, 1), Check.LOST);
        Check.due("it is 2", x.fault(), 2);
        Check.due("INDEX", x.cell(0, 1, 0), Check.LOST);
        Check.due("it is 3", x.fault(), 3);
    }

    static void terms_refusals_lostWhereALongIsAnswered() {
        WaterConsent x = new WaterConsent();
        Check.due("UNKNOWN", x.cell(4, 0, 0), Check.LOST);
        Check.due("OUTSIDE", x.cell(0, 0, 3), Check.LOST);
        Check.due("STATE", x.odds(0, 0, 0), Check.LOST);
        Check.tellCanal(x, FOUR);
        Check.due("OUTSIDE of odds", x.odds(9, 0, 0), Check.LOST);
    }
}
