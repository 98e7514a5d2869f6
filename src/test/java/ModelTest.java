import java.util.Arrays;
import java.util.Map;
import java.util.Random;
import java.util.TreeMap;

/** Long runs of likely calls: each answer is that of the model, and each kind of answer comes. */
public final class ModelTest {
    private static final String[] CALLS = {
        "right", "inspection", "plan", "plan", "begin", "begin", "end", "giveUp", "seal", "sample",
        "sample", "result", "result", "declared", "tolerance", "hold", "settle", "tick", "release",
        "look", "count"};
    private static final int[] WILD = {
        Integer.MIN_VALUE, -1, 4, 5, 6, 8, 9, 10, 30, 40, 1000, 1001, 100000, 100001, 1000000, 1000001,
        Integer.MAX_VALUE};
    /** Kinds of answers that must come up, or the runs would not be worth much. */
    private static final String[] WANTED = {
        "right 0", "right 1", "inspection IllegalArgumentException", "inspection IllegalStateException",
        "plan 0", "plan 1", "plan IllegalArgumentException", "begin 0", "begin 1",
        "begin IllegalArgumentException", "end 0", "end 1", "end IllegalArgumentException", "giveUp 0",
        "giveUp 1", "seal 0", "seal 1", "seal IllegalArgumentException", "sample -1", "sample 39",
        "sample IllegalArgumentException", "sample IllegalStateException", "result -3", "result -2",
        "result -1", "result 0", "result 1", "result 2", "result IllegalArgumentException", "declared 0",
        "declared 1", "tolerance 0", "tolerance 1", "hold 0", "hold 1", "settle 0", "settle 1", "settle 2",
        "settle IllegalArgumentException", "tick 0", "tick 1", "tick 2", "tick IllegalArgumentException",
        "release 0", "release 1", "release 2", "release 3", "release 4", "release 5",
        "release IllegalArgumentException", "look IndexOutOfBoundsException", "look -1", "count -1"};

    /** Runs of any calls, runs that take many samples, and runs with few inspections at once. */
    private static final int ANY = 0;
    private static final int MANY_SAMPLES = 1;
    private static final int FEW_INSPECTIONS = 2;

    public static void main(String[] args) {
        Random random = new Random(20261116);
        Map<String, Integer> came = new TreeMap<>();
        for (int run = 0; run < 1500; run++) {
            oneRun(random, run, came);
        }
        for (String wanted : WANTED) {
            Check.yes("no run answered " + wanted, came.containsKey(wanted));
        }
        Check.finish();
    }

    private static void oneRun(Random random, int run, Map<String, Integer> came) {
        InspectSteps x = new InspectSteps();
        Model model = new Model();
        int mood = run % 3;
        // The counts behind the run are calls too, and an object has 512 of them.
        for (int i = 0; i < 450; i++) {
            boolean first = mood != ANY && i < 18;
            String name = first ? "right" : calledNext(random, model, mood);
            int[] a = first ? new int[] {i / 6, i % 6, 1} : arguments(name, random, model, mood != ANY);
            String want = answer(() -> model.call(name, a));
            String got = answer(() -> call(x, name, a));
            came.merge(name + " " + want, 1, Integer::sum);
            Check.yes("run " + run + ", call " + i + ": " + name + Arrays.toString(a) + " answered " + got
                    + ", due is " + want, got.equals(want));
        }
        sameCounts(run, x, model);
    }

    private static String calledNext(Random random, Model model, int mood) {
        String name = CALLS[random.nextInt(CALLS.length)];
        boolean quiet = name.equals("end") || name.equals("giveUp") || name.equals("look") || name.equals("count");
        if (mood == MANY_SAMPLES && quiet && random.nextInt(4) != 0) {
            return "sample";
        }
        return mood == FEW_INSPECTIONS ? towardsRelease(name, random, model) : name;
    }

    /** Mostly calls that end what is begun, so that the later reasons against release come up. */
    private static String towardsRelease(String name, Random random, Model model) {
        boolean often = random.nextInt(4) != 0;
        switch (name) {
            case "inspection": return pending(model) > 0 && often ? "end" : name;
            case "sample": return often ? "result" : name;
            case "look": return often ? "seal" : name;
            case "hold":
            case "settle":
            case "count": return often ? "release" : name;
            default: return name;
        }
    }

    private static int pending(Model model) {
        int pending = 0;
        for (int i = 0; i < model.call("count", new int[] {0}); i++) {
            long state = model.call("look", new int[] {i, 2});
            pending += state != 3 && state != 5 ? 1 : 0;
        }
        return pending;
    }

    /** An inspection in that state, if there is one and more often than not; else any. */
    private static int likely(Random random, Model model, int inspections, int state) {
        int first = random.nextInt(inspections);
        for (int i = 0; i < model.call("count", new int[] {0}) && random.nextInt(40) != 0; i++) {
            int inspection = (first + i) % inspections;
            if (model.call("look", new int[] {inspection, 2}) == state) {
                return inspection;
            }
        }
        return first;
    }

    private static void sameCounts(int run, InspectSteps x, Model model) {
        for (int what = -1; what < 61; what++) {
            Check.due("run " + run + ", count " + what, model.call("count", new int[] {what}), x.count(what));
        }
    }

    private interface Call {
        long made();
    }

    private static String answer(Call call) {
        try {
            return Long.toString(call.made());
        } catch (RuntimeException e) {
            return e.getClass().getSimpleName();
        }
    }

    private static long call(InspectSteps x, String name, int[] a) {
        switch (name) {
            case "right": return x.right(a[0], a[1], a[2] == 1) ? 1 : 0;
            case "inspection": return x.inspection(a[0], a[1], a[2]);
            case "plan": return x.plan(a[0], a[1], a[2], a[3]);
            case "begin": return x.begin(a[0], a[1]);
            case "end": return x.end(a[0], a[1], a[2] == 1);
            case "giveUp": return x.giveUp(a[0]) ? 1 : 0;
            case "seal": return x.seal(a[0], a[1], a[2], a[3]);
            case "sample": return x.sample(a[0], a[1]);
            case "result": return x.result(a[0], a[1], a[2], a[3]);
            case "declared": return x.declared(a[0], a[1], a[2]) ? 1 : 0;
            case "tolerance": return x.tolerance(a[0], a[1], a[2]) ? 1 : 0;
            case "hold": return x.hold(a[0], a[1], a[2] == 1) ? 1 : 0;
            case "settle": return x.settle(a[0]);
            case "tick": return x.tick(a[0]);
            case "release": return x.release(a[0]);
            case "look": return x.look(a[0], a[1]);
            default: return x.count(a[0]);
        }
    }

    /** Few declarations and people, so that the calls meet; now and then one number is wild. */
    private static int[] arguments(String name, Random r, Model model, boolean opening) {
        int now = (int) model.call("count", new int[] {2});
        int inspections = Math.max(1, (int) model.call("count", new int[] {0}));
        int samples = Math.max(1, (int) model.call("count", new int[] {1}));
        int inspection = r.nextInt(inspections);
        int sample = r.nextInt(samples);
        int declaration = r.nextInt(3);
        int measure = r.nextInt(4);
        int yes = r.nextInt(5) == 0 ? 0 : 1;
        int[] a;
        switch (name) {
            case "right": a = new int[] {r.nextInt(3), r.nextInt(6), yes}; break;
            case "inspection":
                a = new int[] {declaration, opening ? 3 + r.nextInt(2) : r.nextInt(5), now + r.nextInt(60)}; break;
            case "plan":
                int from = now + Math.max(0, r.nextInt(8) - 4);
                a = new int[] {likely(r, model, inspections, r.nextInt(5)), r.nextInt(4), from, from + r.nextInt(opening ? 60 : 9)}; break;
            case "begin": a = new int[] {likely(r, model, inspections, 1), r.nextInt(3)}; break;
            case "end": a = new int[] {likely(r, model, inspections, 2), r.nextInt(3), yes}; break;
            case "giveUp": a = new int[] {r.nextInt(3) == 0 ? inspection : inspections}; break;
            case "seal": a = new int[] {declaration, 1 + r.nextInt(9), r.nextInt(3), r.nextInt(3)}; break;
            case "sample": a = new int[] {likely(r, model, inspections, 2), 1 + samples + r.nextInt(3)}; break;
            case "result":
                a = new int[] {sample, 1 + r.nextInt(3) + sample, measure, 90 + r.nextInt(21)}; break;
            case "declared": a = new int[] {declaration, measure, 95 + r.nextInt(11)}; break;
            case "tolerance": a = new int[] {measure, r.nextInt(80), r.nextInt(80)}; break;
            case "hold": a = new int[] {declaration, r.nextInt(8), r.nextInt(3) == 0 ? 1 : 0}; break;
            case "tick": a = new int[] {now + (r.nextInt(20) == 0 ? r.nextInt(250) : r.nextInt(4))}; break;
            case "look": a = new int[] {inspection, r.nextInt(9)}; break;
            case "count": a = new int[] {r.nextInt(53)}; break;
            default: a = new int[] {declaration}; break;
        }
        boolean flagLast = name.equals("right") || name.equals("end") || name.equals("hold");
        if (r.nextInt(25) == 0 && !(name.equals("tick") && r.nextInt(10) != 0)) {
            a[r.nextInt(flagLast ? a.length - 1 : a.length)] = WILD[r.nextInt(WILD.length)];
        }
        return a;
    }
}
