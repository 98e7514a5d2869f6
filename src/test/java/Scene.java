/** Makes objects that stand where a test begins. */
final class Scene {
    static final int LOW = Integer.MIN_VALUE;
    static final int HIGH = Integer.MAX_VALUE;

    private Scene() {
    }

    /** Every person has every right. */
    static InspectSteps allRights() {
        InspectSteps x = new InspectSteps();
        for (int person = 0; person < 10; person++) {
            for (int kind = 0; kind <= 5; kind++) {
                Check.yes("right", x.right(person, kind, true));
            }
        }
        return x;
    }

    /** Asks, plans at a place for 0 .. 100000 and begins by person 0, while it is 0: the number. */
    static int begun(InspectSteps x, int declaration, int kind, int place) {
        int number = x.inspection(declaration, kind, 100000);
        Check.due("plan", 1, x.plan(number, place, 0, 100000));
        Check.due("begin", 1, x.begin(number, 0));
        return number;
    }

    /** Inspection 0, of declaration 0 and kind 3, is begun by person 0 at place 0. */
    static InspectSteps opened() {
        InspectSteps x = allRights();
        begun(x, 0, 3, 0);
        return x;
    }

    /** Inspection 0 as in opened, with samples 0, 1, .. whose seals are 101, 102, .. */
    static InspectSteps sampled(int samples) {
        InspectSteps x = opened();
        for (int i = 0; i < samples; i++) {
            Check.due("sample", i, x.sample(0, 101 + i));
        }
        return x;
    }

    /** Takes one more sample in inspection 0 and tells its result: how that differs. */
    static int sampledAnd(InspectSteps x, int seal, int measure, int value) {
        return x.result(x.sample(0, seal), seal, measure, value);
    }
}
