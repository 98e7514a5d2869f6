import java.util.Arrays;
import java.util.Random;

/**
 * Any calls in any state: nothing but the exceptions of the document comes out, and what throws
 * or is refused changes nothing that can be seen.
 */
public final class AnyCallsTest {
    private static final int[] WILD = {
        Integer.MIN_VALUE, -1000, -10, -1, 10, 30, 31, 40, 41, 100001, 1000001, Integer.MAX_VALUE};

    public static void main(String[] args) {
        Random random = new Random(20261115);
        for (int run = 0; run < 400; run++) {
            oneRun(random, run % 4 == 0 ? 4 : 40);
        }
        Check.finish();
    }

    private static void oneRun(Random random, int wildness) {
        InspectSteps x = run(random);
        int[] before = seen(x);
        for (int i = 0; i < 512; i++) {
            int call = random.nextInt(17);
            boolean took;
            try {
                took = taken(x, call, random, wildness);
            } catch (IllegalArgumentException | IllegalStateException e) {
                Check.yes("call " + call + " threw " + e, mayThrow(call, e));
                took = false;
            } catch (IndexOutOfBoundsException e) {
                Check.yes("call " + call + " threw " + e,
                        call == 15 && e.getClass() == IndexOutOfBoundsException.class);
                took = false;
            }
            int[] after = seen(x);
            if (!took) {
                Check.yes("call " + call + " was refused and changes nothing", Arrays.equals(before, after));
            }
            before = after;
        }
    }

    private static InspectSteps run(Random random) {
        InspectSteps x = random.nextBoolean() ? Scene.allRights() : new InspectSteps();
        for (int i = random.nextInt(12); i > 0; i--) {
            x.inspection(random.nextInt(3), 2 + random.nextInt(3), random.nextInt(300));
        }
        return x;
    }

    private static boolean mayThrow(int call, RuntimeException e) {
        boolean argument = call != 0 && call != 5 && call != 9 && call != 10 && call != 11 && call < 15;
        if (e.getClass() == IllegalArgumentException.class) {
            return argument;
        }
        return e.getClass() == IllegalStateException.class && (call == 1 || call == 7);
    }

    /** Makes the call: whether it may have changed something. */
    private static boolean taken(InspectSteps x, int call, Random r, int wild) {
        int inspection = some(r, Math.max(1, x.count(0)), wild);
        int sample = some(r, Math.max(1, x.count(1)), wild);
        int declaration = some(r, 3, wild);
        int person = some(r, 10, wild);
        int measure = some(r, 4, wild);
        int now = x.count(2);
        switch (call) {
            case 0: return x.right(person, some(r, 6, wild), r.nextInt(4) != 0);
            case 1: return x.inspection(declaration, some(r, 5, wild), now + some(r, 200, wild)) >= 0;
            case 2: return x.plan(inspection, some(r, 4, wild), now + r.nextInt(3), now + some(r, 30, wild)) == 1;
            case 3: return x.begin(inspection, person) == 1;
            case 4: return x.end(inspection, r.nextInt(4) == 0 ? person : who(x, inspection), r.nextBoolean()) == 1;
            case 5: return r.nextInt(4) == 0 && x.giveUp(inspection);
            case 6: return x.seal(declaration, 1 + some(r, 50, wild), person, some(r, 10, wild)) == 1;
            case 7: return x.sample(inspection, 1 + some(r, 60, wild)) >= 0;
            case 8: return x.result(sample, 1 + some(r, 60, wild), measure, some(r, 100, wild)) >= 0;
            case 9: return x.declared(declaration, measure, some(r, 100, wild));
            case 10: return x.tolerance(measure, some(r, 500, wild), some(r, 500, wild));
            case 11: return x.hold(declaration, some(r, 8, wild), r.nextBoolean());
            case 12: x.settle(declaration); return true;
            case 13: x.tick(now + some(r, 8, wild)); return true;
            case 14: x.release(declaration); return false;
            case 15: x.look(inspection, some(r, 9, wild)); return false;
            default: x.count(some(r, 50, wild)); return false;
        }
    }

    private static int who(InspectSteps x, int inspection) {
        return inspection >= 0 && inspection < x.count(0) ? x.look(inspection, 7) : 0;
    }

    private static int some(Random random, int below, int wildness) {
        return random.nextInt(wildness) == 0 ? WILD[random.nextInt(WILD.length)] : random.nextInt(below);
    }

    private static int[] seen(InspectSteps x) {
        int inspections = x.count(0);
        int[] all = new int[inspections * 9 + 60 + 10];
        int at = 0;
        for (int i = 0; i < inspections; i++) {
            for (int what = 0; what < 9; what++) {
                all[at++] = x.look(i, what);
            }
        }
        for (int what = 0; what < 60; what++) {
            all[at++] = x.count(what);
        }
        for (int d = 0; d < 10; d++) {
            all[at++] = x.release(d);
        }
        return all;
    }
}
