/** Promise 8. */
public final class SealTest {
    public static void main(String[] args) {
        setAgain();
        refused();
        whole();
        somethingBegun();
        byRights();
        everyPair();
        argumentsBeforeRefusals();
        Check.finish();
    }

    private static InspectSteps broken() {
        InspectSteps x = Scene.opened();
        x.end(0, 0, true);
        return x;
    }

    private static void setAgain() {
        for (int number : new int[] {1, 2, 999999, 1000000}) {
            InspectSteps x = broken();
            Check.due("broken", -1, x.count(10));
            Check.due("release", 2, x.release(0));
            Check.due("seal " + number, 1, x.seal(0, number, 9, 3));
            Check.due("its number", number, x.count(10));
            Check.due("release", 0, x.release(0));
            Scene.begun(x, 0, 4, 0);
            Check.due("broken again", -1, x.count(10));
            x.end(1, 0, false);
            Check.due("the same number once more", 1, x.seal(0, number, 3, 9));
        }
    }

    private static void refused() {
        InspectSteps x = broken();
        for (int wrong : new int[] {-1, 10, Scene.LOW, Scene.HIGH}) {
            Check.bad("declaration " + wrong, () -> x.seal(wrong, 5, 1, 2));
            Check.bad("first " + wrong, () -> x.seal(0, 5, wrong, 2));
            Check.bad("second " + wrong, () -> x.seal(0, 5, 1, wrong));
        }
        for (int wrong : new int[] {-1, 0, 1000001, Scene.LOW, Scene.HIGH}) {
            Check.bad("number " + wrong, () -> x.seal(0, wrong, 1, 2));
        }
        Check.bad("one alone", () -> x.seal(0, 5, 1, 1));
        Check.due("still broken", -1, x.count(10));
    }

    private static void whole() {
        InspectSteps x = Scene.allRights();
        Check.due("whole from the first", 0, x.seal(0, 5, 1, 2));
        Check.due("its number stays", 0, x.count(10));
        Check.bad("one alone throws for a whole one too", () -> x.seal(0, 5, 1, 1));
        InspectSteps y = broken();
        y.seal(0, 5, 1, 2);
        Check.due("whole again", 0, y.seal(0, 6, 1, 2));
        Check.due("its number stays", 5, y.count(10));
        Check.due("another declaration's", 0, y.seal(1, 6, 1, 2));
    }

    private static void somethingBegun() {
        for (int kind = 0; kind < 5; kind++) {
            InspectSteps x = broken();
            Scene.begun(x, 0, kind, 0);
            Check.due("with kind " + kind + " begun", kind < 3 ? 1 : 0, x.seal(0, 7, 1, 2));
            Check.due("its number", kind < 3 ? 7 : -1, x.count(10));
        }
        InspectSteps x = broken();
        Scene.begun(x, 1, 3, 0);
        Check.due("begun of another declaration", 1, x.seal(0, 7, 1, 2));
        InspectSteps y = broken();
        y.inspection(0, 3, 50);
        y.plan(1, 0, 0, 50);
        Check.due("planned only", 1, y.seal(0, 7, 1, 2));
        InspectSteps z = Scene.opened();
        Scene.begun(z, 0, 4, 1);
        z.end(1, 0, false);
        Check.due("one of two is still begun", 0, z.seal(0, 7, 1, 2));
        z.end(0, 0, false);
        Check.due("none is", 1, z.seal(0, 7, 1, 2));
    }

    private static void byRights() {
        InspectSteps x = broken();
        x.right(1, 5, false);
        Check.due("the first may not", 0, x.seal(0, 7, 1, 2));
        Check.due("the second may not", 0, x.seal(0, 7, 2, 1));
        x.right(2, 5, false);
        Check.due("neither may", 0, x.seal(0, 7, 1, 2));
        Check.due("still broken", -1, x.count(10));
        x.right(1, 5, true);
        x.right(2, 5, true);
        for (int kind = 0; kind < 5; kind++) {
            x.right(1, kind, false);
            x.right(2, kind, false);
        }
        Check.due("both may", 1, x.seal(0, 7, 1, 2));
    }

    private static void everyPair() {
        for (int first = 0; first < 10; first++) {
            for (int second = 0; second < 10; second++) {
                int one = first;
                int other = second;
                InspectSteps x = broken();
                if (first == second) {
                    Check.bad(first + " alone", () -> x.seal(0, 7, one, other));
                } else {
                    Check.due(first + " and " + second, 1, x.seal(0, 7, one, other));
                }
            }
        }
    }

    private static void argumentsBeforeRefusals() {
        InspectSteps x = new InspectSteps();
        Check.due("whole, and they may not", 0, x.seal(0, 1, 0, 1));
        Check.bad("no number", () -> x.seal(0, 0, 0, 1));
        Check.bad("no number", () -> x.seal(0, 1000001, 0, 1));
        Check.bad("no first", () -> x.seal(0, 1, -1, 1));
        Check.bad("no second", () -> x.seal(0, 1, 0, 10));
        Check.bad("neither, and the same", () -> x.seal(0, 1, 10, 10));
        Check.bad("one alone", () -> x.seal(0, 1, 0, 0));
        Check.bad("no declaration", () -> x.seal(10, 1, 0, 1));
        InspectSteps y = Scene.opened();
        Check.bad("begun, one alone", () -> y.seal(0, 1, 3, 3));
        Check.bad("begun, no number", () -> y.seal(0, 0, 1, 2));
    }
}
