import java.math.BigInteger;
import java.util.ArrayList;
import java.util.HashMap;
import java.util.HashSet;
import java.util.List;
import java.util.Map;
import java.util.Set;

/**
 * The document once more, as plainly as can be and with nothing of the class's way to hold it:
 * time goes by one by one, spans are sets of their units, costs are added up from what happened.
 */
final class Model {
    private static final Set<Integer> PENDING = Set.of(0, 1, 2, 4);

    private static final class Asked {
        int declaration;
        int kind;
        int due;
        int state;
        int level;
        int place;
        int from;
        int to;
        int who = -1;
    }

    private static final class Taken {
        int inspection;
        int seal;
        final Map<Integer, Integer> results = new HashMap<>();
        final Set<Integer> settled = new HashSet<>();
    }

    private final List<Asked> asked = new ArrayList<>();
    private final List<Taken> taken = new ArrayList<>();
    private final List<Integer> begun = new ArrayList<>();
    private final Set<String> rights = new HashSet<>();
    private final Set<String> holds = new HashSet<>();
    private final Map<Integer, Integer> newSeals = new HashMap<>();
    private final Set<Integer> broken = new HashSet<>();
    private final Map<String, Integer> declared = new HashMap<>();
    private final Map<String, Integer> tolerances = new HashMap<>();
    private int now = 0;

    /** Makes the call of that name: its answer, a boolean as 1 or 0. */
    long call(String name, int[] a) {
        switch (name) {
            case "right": return toggled(rights, a[0], 9, a[1], 5, a[2]);
            case "inspection": return inspection(a[0], a[1], a[2]);
            case "plan": return plan(a[0], a[1], a[2], a[3]);
            case "begin": return begin(a[0], a[1]);
            case "end": return end(a[0], a[1], a[2] == 1);
            case "giveUp": return giveUp(a[0]);
            case "seal": return seal(a[0], a[1], a[2], a[3]);
            case "sample": return sample(a[0], a[1]);
            case "result": return result(a[0], a[1], a[2], a[3]);
            case "declared": return declare(a[0], a[1], a[2]);
            case "tolerance": return tolerate(a[0], a[1], a[2]);
            case "hold": return toggled(holds, a[0], 9, a[1], 7, a[2]);
            case "settle": return settle(a[0]);
            case "tick": return tick(a[0]);
            case "release": return release(a[0]);
            case "look": return look(a[0], a[1]);
            default: return count(a[0]);
        }
    }

    private static void argument(boolean can) {
        if (!can) {
            throw new IllegalArgumentException();
        }
    }

    private static boolean in(int number, int first, int last) {
        return number >= first && number <= last;
    }

    private static int toggled(Set<String> set, int one, int lastOne, int other, int lastOther, int is) {
        if (!in(one, 0, lastOne) || !in(other, 0, lastOther)) {
            return 0;
        }
        String key = one + " " + other;
        return (is == 1 ? set.add(key) : set.remove(key)) ? 1 : 0;
    }

    private int inspection(int declaration, int kind, int due) {
        argument(in(declaration, 0, 9) && in(kind, 0, 4) && in(due, now, 100000));
        if (asked.size() == 30) {
            throw new IllegalStateException();
        }
        Asked one = new Asked();
        one.declaration = declaration;
        one.kind = kind;
        one.due = due;
        asked.add(one);
        return asked.size() - 1;
    }

    private boolean isAsked(int inspection) {
        return in(inspection, 0, asked.size() - 1);
    }

    private int plan(int inspection, int place, int from, int to) {
        argument(isAsked(inspection) && in(place, 0, 3));
        argument(in(from, now, 100000) && in(to, now, 100000) && from < to);
        Asked one = asked.get(inspection);
        if (one.state != 0 && one.state != 4) {
            return 0;
        }
        for (Asked other : asked) {
            if ((other.state == 1 || other.state == 2) && other.place == place && meet(other, from, to)) {
                return 0;
            }
        }
        one.state = 1;
        one.place = place;
        one.from = from;
        one.to = to;
        return 1;
    }

    /** Whether a unit of time, from one time to the next, belongs to both spans. */
    private static boolean meet(Asked other, int from, int to) {
        for (int unit = from; unit < to; unit++) {
            if (other.from <= unit && unit + 1 <= other.to) {
                return true;
            }
        }
        return false;
    }

    private int begin(int inspection, int person) {
        argument(isAsked(inspection) && in(person, 0, 9));
        Asked one = asked.get(inspection);
        if (one.state != 1 || !in(now, one.from, one.to) || !rights.contains(person + " " + one.kind)) {
            return 0;
        }
        one.state = 2;
        one.who = person;
        begun.add(inspection);
        if (one.kind == 3 || one.kind == 4) {
            broken.add(one.declaration);
        }
        return 1;
    }

    private int end(int inspection, int person, boolean good) {
        argument(isAsked(inspection) && in(person, 0, 9));
        Asked one = asked.get(inspection);
        if (one.state != 2 || one.who != person) {
            return 0;
        }
        one.state = good ? 3 : 4;
        return 1;
    }

    private int giveUp(int inspection) {
        if (!isAsked(inspection) || !Set.of(0, 1, 4).contains(asked.get(inspection).state)) {
            return 0;
        }
        asked.get(inspection).state = 5;
        return 1;
    }

    private int seal(int declaration, int number, int first, int second) {
        argument(in(declaration, 0, 9) && in(first, 0, 9) && in(second, 0, 9));
        argument(in(number, 1, 1000000) && first != second);
        for (Asked one : asked) {
            if (one.declaration == declaration && one.kind > 2 && one.state == 2) {
                return 0;
            }
        }
        if (!rights.contains(first + " 5") || !rights.contains(second + " 5") || !broken.remove(declaration)) {
            return 0;
        }
        newSeals.put(declaration, number);
        return 1;
    }

    private boolean isSampleSeal(int seal) {
        return taken.stream().anyMatch(one -> one.seal == seal);
    }

    private int sample(int inspection, int seal) {
        argument(isAsked(inspection) && in(seal, 1, 1000000));
        if (taken.size() == 40) {
            throw new IllegalStateException();
        }
        if (asked.get(inspection).kind < 3 || asked.get(inspection).state != 2 || isSampleSeal(seal)) {
            return -1;
        }
        Taken one = new Taken();
        one.inspection = inspection;
        one.seal = seal;
        taken.add(one);
        return taken.size() - 1;
    }

    private int result(int sample, int seal, int measure, int value) {
        argument(in(sample, 0, taken.size() - 1) && in(measure, 0, 3));
        argument(in(seal, 1, 1000000) && in(value, 0, 1000000));
        Taken one = taken.get(sample);
        if (one.results.containsKey(measure)) {
            return -1;
        }
        if (one.seal != seal) {
            return isSampleSeal(seal) ? -2 : -3;
        }
        one.results.put(measure, value);
        return differs(one, measure);
    }

    private int declarationOf(Taken one) {
        return asked.get(one.inspection).declaration;
    }

    private int differs(Taken one, int measure) {
        Integer d = declared.get(declarationOf(one) + " " + measure);
        Integer f = one.results.get(measure);
        if (d == null || f == null) {
            return 0;
        }
        String side = f > d ? "up " : "down ";
        BigInteger by = BigInteger.valueOf(f).subtract(BigInteger.valueOf(d)).abs().multiply(BigInteger.valueOf(1000));
        BigInteger may = BigInteger.valueOf(d).multiply(BigInteger.valueOf(tolerances.getOrDefault(side + measure, 0)));
        return by.compareTo(may) <= 0 ? 0 : by.compareTo(may.add(may)) <= 0 ? 1 : 2;
    }

    private int declare(int declaration, int measure, int value) {
        if (!in(declaration, 0, 9) || !in(measure, 0, 3) || !in(value, 0, 1000000)) {
            return 0;
        }
        declared.put(declaration + " " + measure, value);
        return 1;
    }

    private int tolerate(int measure, int up, int down) {
        if (!in(measure, 0, 3) || !in(up, 0, 1000) || !in(down, 0, 1000)) {
            return 0;
        }
        tolerances.put("up " + measure, up);
        tolerances.put("down " + measure, down);
        return 1;
    }

    private int settle(int declaration) {
        argument(in(declaration, 0, 9));
        int much = 0;
        for (Taken one : taken) {
            for (int measure : one.results.keySet()) {
                if (declarationOf(one) == declaration && one.settled.add(measure) && differs(one, measure) == 2) {
                    much++;
                }
            }
        }
        return much;
    }

    private int tick(int time) {
        argument(in(time, now, 100000));
        int passed = 0;
        while (now < time) {
            now++;
            for (Asked one : asked) {
                boolean late = now == one.due + 1 || now == one.due + 101 || now == one.due + 201
                        || now > one.due + 201 && (now - one.due - 1) % 100 == 0;
                if (late && PENDING.contains(one.state) && one.level < 3) {
                    one.level++;
                    passed++;
                }
            }
        }
        return passed;
    }

    private int release(int declaration) {
        argument(in(declaration, 0, 9));
        for (Asked one : asked) {
            if (one.declaration == declaration && PENDING.contains(one.state)) {
                return 1;
            }
        }
        if (broken.contains(declaration)) {
            return 2;
        }
        if (offices(declaration) != 0) {
            return 3;
        }
        boolean much = false;
        for (Taken one : taken) {
            if (declarationOf(one) != declaration) {
                continue;
            }
            if (one.results.isEmpty()) {
                return 4;
            }
            for (int measure : one.results.keySet()) {
                much |= differs(one, measure) == 2 && !one.settled.contains(measure);
            }
        }
        return much ? 5 : 0;
    }

    private int look(int inspection, int what) {
        if (!isAsked(inspection) || !in(what, 0, 8)) {
            throw new IndexOutOfBoundsException();
        }
        Asked one = asked.get(inspection);
        boolean appointed = one.state == 1 || one.state == 2;
        int samples = (int) taken.stream().filter(t -> t.inspection == inspection).count();
        int[] all = {one.declaration, one.kind, one.state, one.level, appointed ? one.place : -1,
            appointed ? one.from : -1, appointed ? one.to : -1, one.who, samples};
        return all[what];
    }

    private int count(int what) {
        if (in(what, 0, 2)) {
            return new int[] {asked.size(), taken.size(), now}[what];
        }
        int declaration = Math.floorMod(what, 10);
        switch (Math.floorDiv(what, 10)) {
            case 1: return broken.contains(declaration) ? -1 : newSeals.getOrDefault(declaration, 0);
            case 2: return offices(declaration);
            case 3: return costs(declaration);
            case 4: return muchDifferent(declaration);
            default: return -1;
        }
    }

    private int offices(int declaration) {
        int bits = 0;
        for (int office = 0; office < 8; office++) {
            bits |= holds.contains(declaration + " " + office) ? 1 << office : 0;
        }
        return bits;
    }

    private int costs(int declaration) {
        int sum = 0;
        for (int inspection : begun) {
            Asked one = asked.get(inspection);
            sum += one.declaration == declaration ? 100 * (one.kind + 1) : 0;
        }
        for (Taken one : taken) {
            sum += declarationOf(one) == declaration ? 50 : 0;
        }
        return sum;
    }

    private int muchDifferent(int declaration) {
        int much = 0;
        for (Taken one : taken) {
            for (int measure : one.results.keySet()) {
                much += declarationOf(one) == declaration && differs(one, measure) == 2 ? 1 : 0;
            }
        }
        return much;
    }
}
