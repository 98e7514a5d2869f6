/**
 * The Terms at the head of the document, a method for each sentence that names a boundary; the
 * sentence stands above its method.
 */
public final class TermsTest {
    private static final int[] OUTSIDE_TEN = {-1, 10, Scene.LOW, Scene.HIGH};

    public static void main(String[] args) {
        timesFromFirstToLast();
        nowIsTheLatestTold();
        tenDeclarations();
        tenPeople();
        noRightsAtFirst();
        sixRights();
        numbersOfInspections();
        statesInOrder();
        fourPlaces();
        toALaterTime();
        spansMayTouch();
        begunUpToItsEnd();
        endedByTheSame();
        plannedAgain();
        givenUp();
        sealsBroken();
        sealsSetByTwo();
        sealsAtFirst();
        lateEachHundred();
        threeLevels();
        numbersOfSamples();
        sealsOfSamples();
        resultsOnce();
        resultsByTheirSeals();
        declaredNoneAtFirst();
        tolerancesNoneAtFirst();
        differsExactly();
        eightOffices();
        releasedByTheFirstReason();
        settledSoFar();
        costsEachTime();
        refusedCallsChangeNothing();
        theExceptionToldFirst();
        Check.finish();
    }

    /** "TIME is 0 .. 100000". */
    private static void timesFromFirstToLast() {
        InspectSteps x = new InspectSteps();
        Check.due("due at the first time", 0, x.inspection(0, 0, 0));
        Check.due("due at the last", 1, x.inspection(0, 0, 100000));
        Check.bad("due before the first", () -> x.inspection(0, 0, -1));
        Check.bad("due behind the last", () -> x.inspection(0, 0, 100001));
        Check.due("from the first to the last", 1, x.plan(0, 0, 0, 100000));
        Check.bad("from before the first", () -> x.plan(1, 1, -1, 100000));
        Check.bad("to behind the last", () -> x.plan(1, 1, 0, 100001));
        Check.bad("before the first", () -> x.tick(-1));
        Check.bad("behind the last", () -> x.tick(100001));
        Check.due("the first", 0, x.tick(0));
        Check.due("the last", 3, x.tick(100000));
        Check.due("the last again", 0, x.tick(100000));
        Check.bad("the last but one is gone", () -> x.tick(99999));
    }

    /** "NOW is the latest time that was told (0 at first)". */
    private static void nowIsTheLatestTold() {
        InspectSteps x = new InspectSteps();
        Check.due("at first", 0, x.count(2));
        x.inspection(0, 0, 70);
        x.plan(0, 0, 30, 60);
        Check.due("a due time or an appointment is not it", 0, x.count(2));
        x.tick(1);
        Check.due("told", 1, x.count(2));
        x.tick(25);
        Check.bad("an earlier one", () -> x.tick(24));
        Check.bad("one that can't be", () -> x.tick(100001));
        Check.due("the latest that can be", 25, x.count(2));
    }

    /** "DECLARATIONS are 0 .. 9". */
    private static void tenDeclarations() {
        InspectSteps x = Scene.allRights();
        for (int d = 0; d < 10; d++) {
            int opening = Scene.begun(x, d, 3, 0);
            Check.due("its declaration", d, x.look(opening, 0));
            x.end(opening, 0, true);
            Check.due("broken", -1, x.count(10 + d));
            Check.due("sealed", 1, x.seal(d, 60 + d, 0, 9));
            Check.due("its seal", 60 + d, x.count(10 + d));
            Check.yes("declared", x.declared(d, 0, 1));
            Check.yes("held", x.hold(d, 0, true));
            Check.due("settled", 0, x.settle(d));
            Check.due("released", 3, x.release(d));
            Check.due("costs", 400, x.count(30 + d));
        }
        for (int wrong : OUTSIDE_TEN) {
            Check.bad("inspection of " + wrong, () -> x.inspection(wrong, 0, 5));
            Check.bad("seal of " + wrong, () -> x.seal(wrong, 5, 0, 1));
            Check.bad("settle " + wrong, () -> x.settle(wrong));
            Check.bad("release " + wrong, () -> x.release(wrong));
            Check.no("declared for " + wrong, x.declared(wrong, 0, 5));
            Check.no("hold of " + wrong, x.hold(wrong, 0, true));
        }
    }

    /** "PEOPLE 0 .. 9". */
    private static void tenPeople() {
        for (int person = 0; person < 10; person++) {
            InspectSteps x = new InspectSteps();
            Check.yes("a right", x.right(person, 3, true));
            Check.yes("one for seals", x.right(person, 5, true));
            Check.yes("another's", x.right(9 - person, 5, true));
            x.inspection(0, 3, 5);
            x.plan(0, 0, 0, 5);
            Check.due("another has none to begin", 0, x.begin(0, 9 - person));
            Check.due("begun by " + person, 1, x.begin(0, person));
            Check.due("ended by another", 0, x.end(0, 9 - person, true));
            Check.due("ended by " + person, 1, x.end(0, person, true));
            Check.due("sealed by both", 1, x.seal(0, 5, person, 9 - person));
        }
        InspectSteps x = Scene.opened();
        x.inspection(0, 0, 5);
        x.plan(1, 1, 0, 5);
        for (int wrong : OUTSIDE_TEN) {
            Check.no("right of " + wrong, x.right(wrong, 0, true));
            Check.no("no right of " + wrong, x.right(wrong, 0, false));
            Check.bad("begun by " + wrong, () -> x.begin(1, wrong));
            Check.bad("ended by " + wrong, () -> x.end(0, wrong, true));
            Check.bad("sealed by " + wrong, () -> x.seal(0, 5, wrong, 1));
            Check.bad("sealed by 1 and " + wrong, () -> x.seal(0, 5, 1, wrong));
        }
    }

    /** "a person has RIGHTS for KINDS of inspections 0 .. 4 (none at first)". */
    private static void noRightsAtFirst() {
        for (int kind = 0; kind < 5; kind++) {
            InspectSteps x = new InspectSteps();
            x.inspection(0, kind, 5);
            x.plan(0, 0, 0, 5);
            for (int person = 0; person < 10; person++) {
                Check.due("kind " + kind + " by " + person, 0, x.begin(0, person));
            }
            Check.yes("a right", x.right(9, kind, true));
            Check.due("with it", 1, x.begin(0, 9));
        }
        InspectSteps x = new InspectSteps();
        x.inspection(0, 3, 5);
        x.plan(0, 0, 0, 5);
        x.right(0, 3, true);
        x.begin(0, 0);
        x.end(0, 0, true);
        for (int person = 1; person < 10; person++) {
            Check.due("seals by 0 and " + person, 0, x.seal(0, 5, 0, person));
        }
    }

    /** "0 papers, 1 scan, 2 weighing, 3 opening, 4 unloading; and 5 for seals". */
    private static void sixRights() {
        InspectSteps x = new InspectSteps();
        for (int wrong : new int[] {-1, 6, 31, 32, 37, 64, -27, Scene.LOW, Scene.HIGH}) {
            Check.no("right " + wrong, x.right(0, wrong, true));
            Check.no("no right " + wrong, x.right(0, wrong, false));
        }
        for (int right = 0; right <= 5; right++) {
            Check.no("none came of those", x.right(0, right, false));
        }
        for (int wrong : new int[] {-1, 5, 6, Scene.LOW, Scene.HIGH}) {
            Check.bad("an inspection of kind " + wrong, () -> x.inspection(0, wrong, 5));
        }
        for (int kind = 0; kind < 5; kind++) {
            Check.due("an inspection of kind " + kind, kind, x.inspection(0, kind, 5));
            Check.due("its kind", kind, x.look(kind, 1));
        }
    }

    /** "INSPECTIONS 0, 1, .. (30 at most)". */
    private static void numbersOfInspections() {
        InspectSteps x = new InspectSteps();
        for (int i = 0; i < 30; i++) {
            int last = i;
            Check.outside("not there yet", () -> x.look(last, 0));
            Check.due("asked", i, x.inspection(i % 10, i % 5, i));
            Check.due("its declaration", i % 10, x.look(i, 0));
        }
        Check.full("the 31st", () -> x.inspection(0, 0, 5));
        Check.outside("there is no 31st", () -> x.look(30, 0));
        Check.due("the 30th can be planned", 1, x.plan(29, 0, 0, 5));
        Check.yes("and given up", x.giveUp(29));
        Check.full("its number is not free again", () -> x.inspection(0, 0, 5));
        Check.due("inspections", 30, x.count(0));
    }

    /** "STATES: 0 asked, 1 planned, 2 begun, 3 done, 4 failed, 5 given up". */
    private static void statesInOrder() {
        InspectSteps x = Scene.allRights();
        x.inspection(0, 0, 5);
        Check.due("asked", 0, x.look(0, 2));
        x.plan(0, 0, 0, 5);
        Check.due("planned", 1, x.look(0, 2));
        x.begin(0, 0);
        Check.due("begun", 2, x.look(0, 2));
        x.end(0, 0, false);
        Check.due("failed", 4, x.look(0, 2));
        x.giveUp(0);
        Check.due("given up", 5, x.look(0, 2));
        int other = Scene.begun(x, 0, 0, 0);
        x.end(other, 0, true);
        Check.due("done", 3, x.look(other, 2));
    }

    /** "a place 0 .. 3". */
    private static void fourPlaces() {
        InspectSteps x = new InspectSteps();
        for (int place = 0; place < 4; place++) {
            x.inspection(0, 0, 5);
            Check.due("place " + place, 1, x.plan(place, place, 0, 5));
            Check.due("its place", place, x.look(place, 4));
        }
        x.inspection(0, 0, 5);
        for (int place = 0; place < 4; place++) {
            Check.due("taken, place " + place, 0, x.plan(4, place, 0, 5));
        }
        for (int wrong : new int[] {-1, 4, Scene.LOW, Scene.HIGH}) {
            Check.bad("place " + wrong, () -> x.plan(4, wrong, 0, 5));
        }
        Check.due("still asked", 0, x.look(4, 2));
    }

    /** "from a time to a later one". */
    private static void toALaterTime() {
        InspectSteps x = new InspectSteps();
        x.inspection(0, 0, 5);
        Check.bad("to the same", () -> x.plan(0, 0, 7, 7));
        Check.bad("to an earlier one", () -> x.plan(0, 0, 7, 6));
        Check.bad("at the first time alone", () -> x.plan(0, 0, 0, 0));
        Check.bad("at the last time alone", () -> x.plan(0, 0, 100000, 100000));
        Check.due("to the next", 1, x.plan(0, 0, 7, 8));
        x.inspection(0, 0, 5);
        Check.due("up to the last", 1, x.plan(1, 0, 99999, 100000));
    }

    /** "which no other planned or begun inspection has there (spans may touch)". */
    private static void spansMayTouch() {
        for (int begun = 0; begun < 2; begun++) {
            InspectSteps x = Scene.allRights();
            x.inspection(0, 0, 5);
            x.inspection(1, 0, 5);
            x.inspection(2, 0, 5);
            x.plan(0, 0, 10, 20);
            x.tick(5);
            if (begun == 1) {
                x.tick(10);
                x.begin(0, 0);
            } else {
                Check.due("one unit of the first time", 0, x.plan(1, 0, 5, 11));
                Check.due("touching before", 1, x.plan(1, 0, 5, 10));
            }
            Check.due("one unit of the end", 0, x.plan(2, 0, 19, 30));
            Check.due("all of it", 0, x.plan(2, 0, 10, 20));
            Check.due("a unit within", 0, x.plan(2, 0, 14, 15));
            Check.due("touching behind", 1, x.plan(2, 0, 20, 30));
        }
    }

    /** "BEGUN, from its appointment's first time up to its end (NOW, both belong to it)". */
    private static void begunUpToItsEnd() {
        int[][] rows = {
            {0, 1, 0, 1}, {0, 1, 1, 1}, {0, 1, 2, 0}, {1, 2, 0, 0}, {1, 2, 1, 1}, {1, 2, 2, 1}, {1, 2, 3, 0},
            {99999, 100000, 99998, 0}, {99999, 100000, 99999, 1}, {99999, 100000, 100000, 1}};
        for (int[] row : rows) {
            InspectSteps x = Scene.allRights();
            x.inspection(0, 0, 100000);
            x.plan(0, 0, row[0], row[1]);
            x.tick(row[2]);
            Check.due("planned " + row[0] + " .. " + row[1] + ", at " + row[2], row[3], x.begin(0, 0));
        }
    }

    /** "DONE or FAILED by the same person". */
    private static void endedByTheSame() {
        for (int good = 0; good < 2; good++) {
            InspectSteps x = Scene.opened();
            for (int person = 1; person < 10; person++) {
                Check.due("by " + person, 0, x.end(0, person, good == 1));
            }
            Check.due("begun", 2, x.look(0, 2));
            Check.due("by the same", 1, x.end(0, 0, good == 1));
            Check.due("ended", good == 1 ? 3 : 4, x.look(0, 2));
            Check.due("not twice", 0, x.end(0, 0, good == 1));
        }
    }

    /** "one that FAILED may be planned again". */
    private static void plannedAgain() {
        InspectSteps x = Scene.opened();
        x.end(0, 0, false);
        Check.due("failed, at the same place and time", 1, x.plan(0, 0, 0, 100000));
        Check.due("planned", 1, x.look(0, 2));
        x.begin(0, 0);
        x.end(0, 0, true);
        Check.due("done it may not", 0, x.plan(0, 0, 0, 100000));
        Check.due("done", 3, x.look(0, 2));
    }

    /** "GIVEN UP it may be as long as it is asked, planned or failed." */
    private static void givenUp() {
        InspectSteps x = Scene.allRights();
        x.inspection(0, 0, 5);
        Check.yes("asked", x.giveUp(0));
        Check.no("given up", x.giveUp(0));
        x.inspection(0, 0, 5);
        x.plan(1, 0, 0, 5);
        Check.yes("planned", x.giveUp(1));
        int begun = Scene.begun(x, 0, 0, 0);
        Check.no("begun", x.giveUp(begun));
        x.end(begun, 0, false);
        Check.yes("failed", x.giveUp(begun));
        int done = Scene.begun(x, 0, 0, 0);
        x.end(done, 0, true);
        Check.no("done", x.giveUp(done));
        Check.due("it stays done", 3, x.look(done, 2));
        int again = Scene.begun(x, 0, 0, 0);
        x.end(again, 0, false);
        x.plan(again, 0, 0, 5);
        Check.yes("planned again", x.giveUp(again));
        Check.due("given up it is begun no more", 0, x.begin(again, 0));
        Check.due("nor planned", 0, x.plan(again, 0, 0, 5));
    }

    /** "To begin a kind 3 or 4 breaks the declaration's SEAL, if that is whole." */
    private static void sealsBroken() {
        for (int kind = 0; kind < 5; kind++) {
            InspectSteps x = Scene.allRights();
            x.right(1, kind, false);
            x.inspection(9, kind, 50);
            x.begin(0, 0);
            x.plan(0, 0, 10, 20);
            x.begin(0, 0);
            x.tick(10);
            x.begin(0, 1);
            Check.due("refused, kind " + kind, 0, x.count(19));
            x.begin(0, 0);
            Check.due("begun, kind " + kind, kind < 3 ? 0 : -1, x.count(19));
            Check.due("another's", 0, x.count(18));
        }
        InspectSteps x = Scene.opened();
        Scene.begun(x, 0, 4, 1);
        Check.due("a broken one stays so", -1, x.count(10));
    }

    /**
     * "A NEW SEAL (1 .. 1000000) is set by two different people with the right for seals, both,
     * where it is broken, and no inspection of kind 3 or 4 of it is begun."
     */
    private static void sealsSetByTwo() {
        InspectSteps x = Scene.opened();
        Check.due("begun", 0, x.seal(0, 5, 1, 2));
        x.end(0, 0, true);
        Check.bad("number 0", () -> x.seal(0, 0, 1, 2));
        Check.bad("number 1000001", () -> x.seal(0, 1000001, 1, 2));
        for (int person = 0; person < 10; person++) {
            int alone = person;
            Check.bad("one alone", () -> x.seal(0, 5, alone, alone));
        }
        x.right(1, 5, false);
        Check.due("only the second may", 0, x.seal(0, 5, 1, 2));
        Check.due("only the first may", 0, x.seal(0, 5, 2, 1));
        Check.due("broken", -1, x.count(10));
        Check.due("the least number", 1, x.seal(0, 1, 2, 3));
        Check.due("whole", 0, x.seal(0, 2, 2, 3));
        Check.due("its number", 1, x.count(10));
        x.end(Scene.begun(x, 0, 4, 0), 0, false);
        Check.due("the largest", 1, x.seal(0, 1000000, 3, 2));
        Check.due("its number", 1000000, x.count(10));
    }

    /** "At first SEALS are whole, with number 0." */
    private static void sealsAtFirst() {
        InspectSteps x = Scene.allRights();
        for (int d = 0; d < 10; d++) {
            Check.due("number", 0, x.count(10 + d));
            Check.due("whole", 0, x.seal(d, 5, 1, 2));
            Check.due("number still", 0, x.count(10 + d));
            Check.due("no reason", 0, x.release(d));
        }
    }

    /**
     * "LATE: as time goes by, at DUE + 1 and each 100 behind that (DUE + 101, ..), an inspection
     * that is then in state 0, 1, 2 or 4 passes UP".
     */
    private static void lateEachHundred() {
        int[][] rows = {{40, 0}, {41, 1}, {140, 0}, {141, 1}, {240, 0}, {241, 1}, {340, 0}, {341, 0}};
        for (int state = 0; state < 6; state++) {
            InspectSteps x = Scene.allRights();
            x.inspection(0, 0, 40);
            bring(x, state);
            Check.due("state", state, x.look(0, 2));
            boolean passes = state != 3 && state != 5;
            for (int[] row : rows) {
                Check.due("state " + state + " at " + row[0], passes ? row[1] : 0, x.tick(row[0]));
            }
        }
    }

    /** Brings inspection 0, that is asked, into a state while it is 0. */
    private static void bring(InspectSteps x, int state) {
        if (state == 5) {
            x.giveUp(0);
        } else if (state > 0) {
            x.plan(0, 0, 0, 50);
        }
        if (state == 2 || state == 3 || state == 4) {
            x.begin(0, 0);
        }
        if (state == 3 || state == 4) {
            x.end(0, 0, state == 3);
        }
    }

    /** "its LEVEL (0 at first) is one more, 3 at most". */
    private static void threeLevels() {
        InspectSteps x = new InspectSteps();
        x.inspection(0, 0, 0);
        Check.due("at first", 0, x.look(0, 3));
        for (int level = 1; level <= 3; level++) {
            Check.due("one more", 1, x.tick(100 * level - 99));
            Check.due("level", level, x.look(0, 3));
        }
        Check.due("no more", 0, x.tick(301));
        Check.due("at the end of time", 0, x.tick(100000));
        Check.due("level", 3, x.look(0, 3));
    }

    /** "SAMPLES 0, 1, .. (40 at most) are taken in an inspection of kind 3 or 4 that is begun". */
    private static void numbersOfSamples() {
        InspectSteps x = Scene.opened();
        Scene.begun(x, 1, 4, 1);
        for (int i = 0; i < 40; i++) {
            int last = i;
            Check.bad("not there yet", () -> x.result(last, 1, 0, 0));
            Check.due("taken", i, x.sample(i % 2, 1 + i));
        }
        Check.full("the 41st", () -> x.sample(0, 41));
        Check.full("the 41st, elsewhere", () -> x.sample(1, 41));
        Check.bad("there is no 41st", () -> x.result(40, 1, 0, 0));
        Check.due("the 40th has its result", 0, x.result(39, 40, 0, 0));
        Check.due("samples", 40, x.count(1));
        Check.due("of the one", 20, x.look(0, 8));
        Check.due("of the other", 20, x.look(1, 8));
        for (int kind = 0; kind < 5; kind++) {
            for (int state = 0; state < 6; state++) {
                InspectSteps y = Scene.allRights();
                y.inspection(0, kind, 5);
                bring(y, state);
                Check.due("kind " + kind + " in state " + state, kind > 2 && state == 2 ? 0 : -1, y.sample(0, 7));
            }
        }
    }

    /** "with a seal of their own (1 .. 1000000; each once in all)". */
    private static void sealsOfSamples() {
        InspectSteps x = Scene.opened();
        Scene.begun(x, 1, 4, 1);
        Check.bad("seal 0", () -> x.sample(0, 0));
        Check.due("seal 1", 0, x.sample(0, 1));
        Check.due("seal 1000000", 1, x.sample(0, 1000000));
        Check.bad("seal 1000001", () -> x.sample(0, 1000001));
        Check.due("once in an inspection", -1, x.sample(0, 1));
        Check.due("once in all", -1, x.sample(1, 1));
        x.end(0, 0, false);
        x.giveUp(0);
        Check.due("of one that was given up, too", -1, x.sample(1, 1000000));
        Check.due("samples", 2, x.count(1));
    }

    /** "a MEASURE 0 .. 3 and a value (0 .. 1000000): once for each measure". */
    private static void resultsOnce() {
        InspectSteps x = Scene.sampled(2);
        Check.bad("measure -1", () -> x.result(0, 101, -1, 0));
        Check.bad("measure 4", () -> x.result(0, 101, 4, 0));
        for (int measure = 0; measure < 4; measure++) {
            int one = measure;
            Check.bad("value -1", () -> x.result(0, 101, one, -1));
            Check.bad("value 1000001", () -> x.result(0, 101, one, 1000001));
            Check.due("the least", 0, x.result(0, 101, measure, 0));
            Check.due("once", -1, x.result(0, 101, measure, 0));
            Check.due("the largest", 0, x.result(1, 102, measure, 1000000));
            Check.due("once", -1, x.result(1, 102, measure, 0));
        }
    }

    /**
     * "if the seal is another sample's it is that one's, not this one's, if it is none's it is
     * nobody's: neither is taken".
     */
    private static void resultsByTheirSeals() {
        InspectSteps x = Scene.sampled(1);
        Scene.begun(x, 1, 4, 1);
        x.sample(1, 1000000);
        x.declared(0, 0, 10);
        x.declared(1, 0, 10);
        Check.due("another's, of another declaration", -2, x.result(0, 1000000, 0, 90));
        Check.due("another's", -2, x.result(1, 101, 0, 90));
        Check.due("nobody's", -3, x.result(0, 1, 0, 90));
        Check.due("nobody's, next to one", -3, x.result(0, 102, 0, 90));
        x.end(0, 0, true);
        x.end(1, 0, true);
        x.seal(0, 5, 1, 2);
        x.seal(1, 6, 1, 2);
        for (int d = 0; d < 2; d++) {
            Check.due("no result", 4, x.release(d));
            Check.due("nothing differs", 0, x.count(40 + d));
            Check.due("nothing to settle", 0, x.settle(d));
        }
        Check.due("the declaration's own seal is nobody's", -3, x.result(0, 5, 0, 90));
        Check.due("it can still be told", 2, x.result(0, 101, 0, 90));
        Check.due("there, too", 0, x.result(1, 1000000, 0, 10));
    }

    /** "DECLARED values of measures are told for a declaration (none at first)". */
    private static void declaredNoneAtFirst() {
        InspectSteps x = Scene.allRights();
        for (int d = 0; d < 10; d++) {
            int opening = Scene.begun(x, d, 3, 0);
            int sample = x.sample(opening, 1 + d);
            for (int measure = 0; measure < 4; measure++) {
                Check.due("nothing declared", 0, x.result(sample, 1 + d, measure, 1000000 * (measure % 2)));
            }
            Check.due("nothing differs", 0, x.count(40 + d));
            x.end(opening, 0, true);
        }
        x.declared(4, 2, 7);
        for (int d = 0; d < 10; d++) {
            Check.due("declared for one alone", d == 4 ? 1 : 0, x.count(40 + d));
        }
    }

    /** "TOLERANCES for a measure: so many thousandths UP and DOWN (0 at first)". */
    private static void tolerancesNoneAtFirst() {
        for (int measure = 0; measure < 4; measure++) {
            InspectSteps x = Scene.sampled(3);
            x.declared(0, measure, 1000000);
            Check.due("one less", 2, x.result(0, 101, measure, 999999));
            Check.due("as declared", 0, x.result(1, 102, measure, 1000000));
            x.declared(0, measure, 999999);
            Check.due("one more", 2, x.result(2, 103, measure, 1000000));
            for (int other = 0; other < 4; other++) {
                Check.yes("others' tolerances", other == measure || x.tolerance(other, 1000, 1000));
            }
            Check.due("are no matter", 2, x.count(40));
            Check.yes("its own", x.tolerance(measure, 1000, 1000));
            Check.due("is", 0, x.count(40));
        }
    }

    /**
     * "DIFFERS: 0 if F is not above D by more than D * UP / 1000, nor below by more than
     * D * DOWN / 1000; 2 if by more than twice that; else 1 (compared exactly). Without a
     * declared value 0."
     */
    private static void differsExactly() {
        for (int d : new int[] {0, 1, 3, 333, 334, 499, 500, 501, 999, 1000, 1001, 499999, 500000, 999999, 1000000}) {
            for (int t : new int[] {0, 1, 2, 3, 250, 499, 500, 501, 999, 1000}) {
                long once = (long) d * t;
                for (int edge = 1; edge <= 2; edge++) {
                    for (long off = once * edge / 1000 - 1; off <= once * edge / 1000 + 1; off++) {
                        int due = off * 1000 <= once ? 0 : off * 1000 <= 2 * once ? 1 : 2;
                        foundOff(d, t, (int) off, due);
                    }
                }
            }
        }
    }

    private static void foundOff(int d, int t, int off, int due) {
        if (off < 0) {
            return;
        }
        InspectSteps x = new InspectSteps();
        x.right(0, 3, true);
        x.inspection(0, 3, 5);
        x.plan(0, 0, 0, 5);
        x.begin(0, 0);
        x.sample(0, 1);
        x.declared(0, 0, d);
        x.declared(0, 1, d);
        x.tolerance(0, t, 1000 - t);
        x.tolerance(1, 1000 - t, t);
        if (d + off <= 1000000) {
            Check.due(off + " above " + d + " by " + t, due, x.result(0, 1, 0, d + off));
        }
        if (d - off >= 0) {
            Check.due(off + " below " + d + " by " + t, due, x.result(0, 1, 1, d - off));
        }
    }

    /** "HOLDS: other offices 0 .. 7 hold a declaration, or do not." */
    private static void eightOffices() {
        InspectSteps x = new InspectSteps();
        for (int wrong : new int[] {-1, 8, 31, 32, 39, -25, Scene.LOW, Scene.HIGH}) {
            Check.no("office " + wrong, x.hold(0, wrong, true));
            Check.no("office " + wrong + " not", x.hold(0, wrong, false));
        }
        Check.due("none came of those", 0, x.count(20));
        for (int office = 0; office < 8; office++) {
            Check.yes("office " + office, x.hold(0, office, true));
            Check.due("with those before", (2 << office) - 1, x.count(20));
        }
        for (int office = 0; office < 8; office++) {
            Check.due("held", 3, x.release(0));
            Check.yes("office " + office + " not", x.hold(0, office, false));
        }
        Check.due("by none", 0, x.release(0));
    }

    /** "RELEASE: why not yet, the first of: 1 .. 5 .. 0: nothing." */
    private static void releasedByTheFirstReason() {
        for (int reasons = 0; reasons < 32; reasons++) {
            InspectSteps x = Scene.sampled(2);
            x.declared(0, 0, 10);
            x.result(0, 101, 0, 90);
            if ((reasons & 16) == 0) {
                x.settle(0);
            }
            if ((reasons & 8) == 0) {
                x.result(1, 102, 3, 0);
            }
            if ((reasons & 4) != 0) {
                x.hold(0, 7, true);
            }
            x.end(0, 0, true);
            if ((reasons & 2) == 0) {
                x.seal(0, 5, 1, 2);
            }
            if ((reasons & 1) != 0) {
                x.inspection(0, 0, 5);
            }
            int due = reasons == 0 ? 0 : 1 + Integer.numberOfTrailingZeros(reasons);
            Check.due("reasons " + Integer.toBinaryString(reasons), due, x.release(0));
            Check.due("of another", 0, x.release(1));
        }
    }

    /**
     * "to SETTLE is told for a declaration: all its results told so far are settled then, however
     * they differ".
     */
    private static void settledSoFar() {
        InspectSteps x = Scene.sampled(1);
        Check.due("none told", 0, x.settle(0));
        for (int measure = 0; measure < 3; measure++) {
            x.declared(0, measure, 100);
            x.tolerance(measure, 10, 10);
            x.result(0, 101, measure, 100 + measure);
        }
        x.end(0, 0, true);
        x.seal(0, 5, 1, 2);
        Check.due("by 0, 1 and 1 at most", 0, x.settle(0));
        for (int measure = 0; measure < 3; measure++) {
            x.declared(0, measure, 50);
        }
        Check.due("by 2 now, all", 3, x.count(40));
        Check.due("but settled", 0, x.release(0));
        Check.due("and not again", 0, x.settle(0));
        x.declared(0, 3, 50);
        Check.due("told behind that", 2, x.result(0, 101, 3, 100));
        Check.due("is not", 5, x.release(0));
        Check.due("until it is", 1, x.settle(0));
        Check.due("settled", 0, x.release(0));
    }

    /**
     * "COSTS of a declaration: for each of its inspections that was begun, each time, 100 times
     * (kind and 1), for each sample 50."
     */
    private static void costsEachTime() {
        InspectSteps x = Scene.allRights();
        int due = 0;
        for (int kind = 0; kind < 5; kind++) {
            int inspection = x.inspection(9, kind, 5);
            Check.due("asked", due, x.count(39));
            for (int time = 0; time < 2; time++) {
                x.plan(inspection, 0, 0, 5);
                Check.due("planned", due, x.count(39));
                x.begin(inspection, 0);
                due += 100 * (kind + 1);
                Check.due("begun", due, x.count(39));
                due += x.sample(inspection, 10 * kind + time + 1) >= 0 ? 50 : 0;
                Check.due("a sample, if one", due, x.count(39));
                x.end(inspection, 0, time == 1);
                Check.due("ended", due, x.count(39));
            }
        }
        Check.due("in all", 2 * 1500 + 4 * 50, x.count(39));
        Check.due("of another", 0, x.count(38));
    }

    /** "What throws, or is refused, changes nothing". What can't be looked at is asked for. */
    private static void refusedCallsChangeNothing() {
        InspectSteps x = Scene.allRights();
        x.inspection(0, 3, 5);
        x.inspection(0, 3, 5);
        x.plan(0, 0, 0, 5);
        x.plan(0, 1, 0, 5);
        Check.bad("no time", () -> x.plan(1, 2, 5, 5));
        Check.due("a refused appointment takes no place", 1, x.plan(1, 1, 0, 5));
        x.giveUp(1);
        x.right(1, 3, false);
        x.begin(0, 1);
        Check.due("who may not is not kept", -1, x.look(0, 7));
        Check.due("nor paid for", 0, x.count(30));
        x.begin(0, 0);
        Check.bad("no seal", () -> x.sample(0, 0));
        Check.due("in one that is given up", -1, x.sample(1, 44));
        Check.due("a refused sample leaves its seal free", 0, x.sample(0, 44));
        x.declared(0, 0, 10);
        Check.bad("no value", () -> x.result(0, 44, 0, -1));
        x.result(0, 43, 0, 90);
        Check.due("a refused result is not told", 0, x.result(0, 44, 0, 10));
        x.result(0, 44, 0, 90);
        Check.due("a second one is not kept", 0, x.count(40));
        Check.no("no value", x.declared(0, 0, 1000001));
        Check.no("no tolerance", x.tolerance(0, 1000, 1001));
        Check.no("no tolerance", x.tolerance(0, 1001, 1000));
        Check.due("nor is another declared", 0, x.count(40));
        x.declared(0, 0, 9);
        Check.due("nor tolerated", 1, x.count(40));
        Check.bad("no declaration", () -> x.settle(10));
        Check.due("nor settled", 1, x.settle(0));
        Check.bad("no time", () -> x.tick(100001));
        Check.due("nothing passed up", 0, x.look(0, 3));
        Check.due("it does later", 1, x.tick(6));
    }

    /** "Of several exceptions the one told first is thrown." */
    private static void theExceptionToldFirst() {
        InspectSteps x = Scene.sampled(40);
        for (int i = 1; i < 30; i++) {
            x.inspection(0, 0, 5);
        }
        Check.bad("no declaration, and 30", () -> x.inspection(-1, 0, 5));
        Check.bad("no kind, and 30", () -> x.inspection(0, 5, 5));
        Check.bad("no time, and 30", () -> x.inspection(0, 0, 100001));
        Check.full("30 alone", () -> x.inspection(0, 0, 5));
        Check.bad("no inspection, and 40", () -> x.sample(30, 5));
        Check.bad("no seal, and 40", () -> x.sample(0, 1000001));
        Check.full("40 alone", () -> x.sample(0, 5));
    }
}
