import java.util.ArrayList;
import java.util.Arrays;

/** Inspections of declarations, and why a declaration is not released yet. */
public final class InspectSteps {
    public static final int NONE = -1;

    private static final int LAST_TIME = 100000;
    private static final int DECLARATIONS = 10;
    private static final int PEOPLE = 10;
    private static final int KINDS = 5;
    private static final int PLACES = 4;
    private static final int MEASURES = 4;
    private static final int OFFICES = 8;
    private static final int MOST_INSPECTIONS = 30;
    private static final int MOST_SAMPLES = 40;
    private static final int LAST_SEAL = 1000000;
    private static final int LAST_VALUE = 1000000;
    private static final int MOST_THOUSANDTHS = 1000;

    /** The right for seals stands behind those for the kinds of inspections. */
    private static final int SEAL_RIGHT = 5;
    /** Kinds from this one on open what is sealed, and samples are taken in them. */
    private static final int FIRST_OPENING_KIND = 3;

    private static final int ASKED = 0;
    private static final int PLANNED = 1;
    private static final int BEGUN = 2;
    private static final int DONE = 3;
    private static final int FAILED = 4;
    private static final int GIVEN_UP = 5;

    private static final int TOP_LEVEL = 3;
    private static final int TIME_BETWEEN_LEVELS = 100;

    private static final int COST_OF_KIND = 100;
    private static final int COST_OF_SAMPLE = 50;

    private static final int DIFFERS_MUCH = 2;

    private static final int ALREADY_TOLD = -1;
    private static final int SEAL_OF_ANOTHER = -2;
    private static final int SEAL_OF_NOBODY = -3;

    private final ArrayList<Inspection> inspections = new ArrayList<>();
    private final ArrayList<Sample> samples = new ArrayList<>();
    /** Of each person, the rights as bits. */
    private final int[] rights = new int[PEOPLE];
    /** Of each declaration, the number of its seal, NONE while it is broken. */
    private final int[] sealNumbers = new int[DECLARATIONS];
    /** Of each declaration, the offices that hold it as bits. */
    private final int[] holders = new int[DECLARATIONS];
    private final int[] costs = new int[DECLARATIONS];
    /** Of each declaration and measure, the declared value, NONE without. */
    private final int[][] declaredValues = new int[DECLARATIONS][MEASURES];
    private final int[] thousandthsUp = new int[MEASURES];
    private final int[] thousandthsDown = new int[MEASURES];
    private int now = 0;

    public InspectSteps() {
        for (int d = 0; d < DECLARATIONS; d++) {
            Arrays.fill(declaredValues[d], NONE);
        }
    }

    public boolean right(int person, int kind, boolean is) {
        if (!isPerson(person) || !isWithin(kind, 0, SEAL_RIGHT) || mayDo(person, kind) == is) {
            return false;
        }
        rights[person] ^= 1 << kind;
        return true;
    }

    public int inspection(int declaration, int kind, int due)
            throws IllegalArgumentException, IllegalStateException {
        if (!isDeclaration(declaration) || !isWithin(kind, 0, KINDS - 1)) {
            throw new IllegalArgumentException("no such declaration or kind");
        }
        if (!isTimeToCome(due)) {
            throw new IllegalArgumentException("due at no time from now on");
        }
        if (inspections.size() >= MOST_INSPECTIONS) {
            throw new IllegalStateException("no more inspections");
        }
        inspections.add(new Inspection(declaration, kind, due));
        return inspections.size() - 1;
    }

    public int plan(int inspection, int place, int from, int to) throws IllegalArgumentException {
        if (!isInspection(inspection) || !isWithin(place, 0, PLACES - 1)) {
            throw new IllegalArgumentException("no such inspection or place");
        }
        if (!isTimeToCome(from) || !isTimeToCome(to) || from >= to) {
            throw new IllegalArgumentException("no times from now on, in order");
        }
        Inspection planned = inspections.get(inspection);
        if (!planned.canBePlanned() || isTaken(place, from, to)) {
            return 0;
        }
        planned.appoint(place, from, to);
        return 1;
    }

    public int begin(int inspection, int person) throws IllegalArgumentException {
        if (!isInspection(inspection) || !isPerson(person)) {
            throw new IllegalArgumentException("no such inspection or person");
        }
        Inspection begun = inspections.get(inspection);
        if (!begun.canBeBegunAt(now) || !mayDo(person, begun.kind)) {
            return 0;
        }
        begun.state = BEGUN;
        begun.person = person;
        costs[begun.declaration] += COST_OF_KIND * (begun.kind + 1);
        if (begun.isOpening()) {
            sealNumbers[begun.declaration] = NONE;
        }
        return 1;
    }

    public int end(int inspection, int person, boolean good) throws IllegalArgumentException {
        if (!isInspection(inspection) || !isPerson(person)) {
            throw new IllegalArgumentException("no such inspection or person");
        }
        Inspection ended = inspections.get(inspection);
        if (ended.state != BEGUN || ended.person != person) {
            return 0;
        }
        ended.state = good ? DONE : FAILED;
        return 1;
    }

    public boolean giveUp(int inspection) {
        if (!isInspection(inspection)) {
            return false;
        }
        Inspection givenUp = inspections.get(inspection);
        if (!givenUp.canBeGivenUp()) {
            return false;
        }
        givenUp.state = GIVEN_UP;
        return true;
    }

    public int seal(int declaration, int number, int first, int second)
            throws IllegalArgumentException {
        if (!isDeclaration(declaration) || !isPerson(first) || !isPerson(second)) {
            throw new IllegalArgumentException("no such declaration or people");
        }
        if (!isSeal(number) || first == second) {
            throw new IllegalArgumentException("no such seal, or one person alone");
        }
        if (sealNumbers[declaration] != NONE || isBeingOpened(declaration)
                || !mayDo(first, SEAL_RIGHT) || !mayDo(second, SEAL_RIGHT)) {
            return 0;
        }
        sealNumbers[declaration] = number;
        return 1;
    }

    public int sample(int inspection, int seal)
            throws IllegalArgumentException, IllegalStateException {
        if (!isInspection(inspection) || !isSeal(seal)) {
            throw new IllegalArgumentException("no such inspection or seal");
        }
        if (samples.size() >= MOST_SAMPLES) {
            throw new IllegalStateException("no more samples");
        }
        Inspection source = inspections.get(inspection);
        if (!source.isOpening() || source.state != BEGUN || isSealOfSample(seal)) {
            return NONE;
        }
        samples.add(new Sample(source.declaration, seal));
        source.sampleCount++;
        costs[source.declaration] += COST_OF_SAMPLE;
        return samples.size() - 1;
    }

    public int result(int sample, int seal, int measure, int value)
            throws IllegalArgumentException {
        if (!isWithin(sample, 0, samples.size() - 1) || !isMeasure(measure)) {
            throw new IllegalArgumentException("no such sample or measure");
        }
        if (!isSeal(seal) || !isValue(value)) {
            throw new IllegalArgumentException("no such seal or value");
        }
        Sample tested = samples.get(sample);
        if (tested.found[measure] != NONE) {
            return ALREADY_TOLD;
        }
        if (tested.seal != seal) {
            return isSealOfSample(seal) ? SEAL_OF_ANOTHER : SEAL_OF_NOBODY;
        }
        tested.found[measure] = value;
        return difference(tested, measure);
    }

    public boolean declared(int declaration, int measure, int value) {
        if (!isDeclaration(declaration) || !isMeasure(measure) || !isValue(value)) {
            return false;
        }
        declaredValues[declaration][measure] = value;
        return true;
    }

    public boolean tolerance(int measure, int up, int down) {
        if (!isMeasure(measure) || !isWithin(up, 0, MOST_THOUSANDTHS)
                || !isWithin(down, 0, MOST_THOUSANDTHS)) {
            return false;
        }
        thousandthsUp[measure] = up;
        thousandthsDown[measure] = down;
        return true;
    }

    public boolean hold(int declaration, int office, boolean is) {
        if (!isDeclaration(declaration) || !isWithin(office, 0, OFFICES - 1)
                || hasBit(holders[declaration], office) == is) {
            return false;
        }
        holders[declaration] ^= 1 << office;
        return true;
    }

    public int settle(int declaration) throws IllegalArgumentException {
        if (!isDeclaration(declaration)) {
            throw new IllegalArgumentException("no such declaration");
        }
        int settledNow = muchDifferent(declaration, false);
        for (int i = 0; i < samples.size(); i++) {
            Sample one = samples.get(i);
            if (one.declaration == declaration) {
                one.settleTold();
            }
        }
        return settledNow;
    }

    public int tick(int time) throws IllegalArgumentException {
        if (!isTimeToCome(time)) {
            throw new IllegalArgumentException("no time from now on");
        }
        int passedUp = 0;
        for (int i = 0; i < inspections.size(); i++) {
            passedUp += inspections.get(i).passUp(now, time);
        }
        now = time;
        return passedUp;
    }

    public int release(int declaration) throws IllegalArgumentException {
        if (!isDeclaration(declaration)) {
            throw new IllegalArgumentException("no such declaration");
        }
        if (hasPendingInspection(declaration)) {
            return 1;
        }
        if (sealNumbers[declaration] == NONE) {
            return 2;
        }
        if (holders[declaration] != 0) {
            return 3;
        }
        if (hasSampleWithoutResult(declaration)) {
            return 4;
        }
        return muchDifferent(declaration, false) > 0 ? 5 : 0;
    }

    public int look(int inspection, int what) throws IndexOutOfBoundsException {
        if (!isInspection(inspection)) {
            throw new IndexOutOfBoundsException("no such inspection");
        }
        Inspection seen = inspections.get(inspection);
        switch (what) {
            case 0: return seen.declaration;
            case 1: return seen.kind;
            case 2: return seen.state;
            case 3: return seen.level;
            case 4: return seen.hasAppointment() ? seen.place : NONE;
            case 5: return seen.hasAppointment() ? seen.from : NONE;
            case 6: return seen.hasAppointment() ? seen.to : NONE;
            case 7: return seen.person;
            case 8: return seen.sampleCount;
            default: throw new IndexOutOfBoundsException("nothing such to look at");
        }
    }

    public int count(int what) {
        switch (what) {
            case 0: return inspections.size();
            case 1: return samples.size();
            case 2: return now;
            default: return what < 10 ? NONE : countOf(what % 10, what / 10);
        }
    }

    private int countOf(int declaration, int what) {
        if (!isDeclaration(declaration)) {
            return NONE;
        }
        switch (what) {
            case 1: return sealNumbers[declaration];
            case 2: return holders[declaration];
            case 3: return costs[declaration];
            case 4: return muchDifferent(declaration, true);
            default: return NONE;
        }
    }

    /** Counts the results of a declaration that differ by 2, as declared and tolerated now. */
    private int muchDifferent(int declaration, boolean settledToo) {
        int results = 0;
        for (int i = 0; i < samples.size(); i++) {
            Sample one = samples.get(i);
            if (one.declaration != declaration) {
                continue;
            }
            for (int m = 0; m < MEASURES; m++) {
                if ((settledToo || !one.settled[m]) && difference(one, m) == DIFFERS_MUCH) {
                    results++;
                }
            }
        }
        return results;
    }

    private int difference(Sample sample, int measure) {
        int found = sample.found[measure];
        int declared = declaredValues[sample.declaration][measure];
        if (found == NONE || declared == NONE) {
            return 0;
        }
        // Both sides times 1000, so that no division rounds.
        long off = Math.abs((long) found - declared) * 1000;
        long allowed = (long) declared
                * (found > declared ? thousandthsUp[measure] : thousandthsDown[measure]);
        if (off <= allowed) {
            return 0;
        }
        return off > 2 * allowed ? DIFFERS_MUCH : 1;
    }

    private boolean isTaken(int place, int from, int to) {
        for (int i = 0; i < inspections.size(); i++) {
            if (inspections.get(i).takes(place, from, to)) {
                return true;
            }
        }
        return false;
    }

    private boolean isBeingOpened(int declaration) {
        for (int i = 0; i < inspections.size(); i++) {
            Inspection one = inspections.get(i);
            if (one.declaration == declaration && one.isOpening() && one.state == BEGUN) {
                return true;
            }
        }
        return false;
    }

    private boolean hasPendingInspection(int declaration) {
        for (int i = 0; i < inspections.size(); i++) {
            Inspection one = inspections.get(i);
            if (one.declaration == declaration && one.isPending()) {
                return true;
            }
        }
        return false;
    }

    private boolean hasSampleWithoutResult(int declaration) {
        for (int i = 0; i < samples.size(); i++) {
            Sample one = samples.get(i);
            if (one.declaration == declaration && !one.hasResult()) {
                return true;
            }
        }
        return false;
    }

    private boolean isSealOfSample(int seal) {
        for (int i = 0; i < samples.size(); i++) {
            if (samples.get(i).seal == seal) {
                return true;
            }
        }
        return false;
    }

    private boolean isInspection(int inspection) {
        return isWithin(inspection, 0, inspections.size() - 1);
    }

    private boolean isTimeToCome(int time) {
        return isWithin(time, now, LAST_TIME);
    }

    private boolean mayDo(int person, int right) {
        return isPerson(person) && hasBit(rights[person], right);
    }

    private static boolean isDeclaration(int declaration) {
        return isWithin(declaration, 0, DECLARATIONS - 1);
    }

    private static boolean isPerson(int person) {
        return isWithin(person, 0, PEOPLE - 1);
    }

    private static boolean isMeasure(int measure) {
        return isWithin(measure, 0, MEASURES - 1);
    }

    private static boolean isSeal(int number) {
        return isWithin(number, 1, LAST_SEAL);
    }

    private static boolean isValue(int value) {
        return isWithin(value, 0, LAST_VALUE);
    }

    private static boolean isWithin(int number, int first, int last) {
        return first <= number && number <= last;
    }

    private static boolean hasBit(int bits, int bit) {
        return (bits >> bit & 1) == 1;
    }

    /** What was asked for, and how far it has come. */
    private static final class Inspection {
        final int declaration;
        final int kind;
        final int due;
        int state = ASKED;
        int level = 0;
        int place = NONE;
        int from = NONE;
        int to = NONE;
        /** Who began it last; kept when it is planned again, as that one did it. */
        int person = NONE;
        int sampleCount = 0;

        Inspection(int declaration, int kind, int due) {
            this.declaration = declaration;
            this.kind = kind;
            this.due = due;
        }

        boolean isOpening() {
            return kind >= FIRST_OPENING_KIND;
        }

        /** Only what is done or given up is late no more, and no reason against release. */
        boolean isPending() {
            return state != DONE && state != GIVEN_UP;
        }

        boolean canBePlanned() {
            return state == ASKED || state == FAILED;
        }

        boolean canBeBegunAt(int time) {
            return state == PLANNED && from <= time && time <= to;
        }

        boolean canBeGivenUp() {
            return state == ASKED || state == PLANNED || state == FAILED;
        }

        boolean hasAppointment() {
            return state == PLANNED || state == BEGUN;
        }

        boolean takes(int wantedPlace, int wantedFrom, int wantedTo) {
            return hasAppointment() && place == wantedPlace && from < wantedTo && wantedFrom < to;
        }

        void appoint(int newPlace, int newFrom, int newTo) {
            state = PLANNED;
            place = newPlace;
            from = newFrom;
            to = newTo;
        }

        /** Passes up for each late time behind the one and up to the other: how often. */
        int passUp(int behind, int upTo) {
            if (!isPending()) {
                return 0;
            }
            int levels = Math.min(lateTimes(upTo) - lateTimes(behind), TOP_LEVEL - level);
            level += levels;
            return levels;
        }

        private int lateTimes(int upTo) {
            return upTo <= due ? 0 : (upTo - due - 1) / TIME_BETWEEN_LEVELS + 1;
        }
    }

    /** What was taken in an inspection, and what was found in it. */
    private static final class Sample {
        final int declaration;
        final int seal;
        /** By measure, NONE until it is told. */
        final int[] found = new int[MEASURES];
        /** By measure; a settled result stays so, however it differs later. */
        final boolean[] settled = new boolean[MEASURES];

        Sample(int declaration, int seal) {
            this.declaration = declaration;
            this.seal = seal;
            Arrays.fill(found, NONE);
        }

        boolean hasResult() {
            for (int m = 0; m < MEASURES; m++) {
                if (found[m] != NONE) {
                    return true;
                }
            }
            return false;
        }

        void settleTold() {
            for (int m = 0; m < MEASURES; m++) {
                if (found[m] != NONE) {
                    settled[m] = true;
                }
            }
        }
    }
}
