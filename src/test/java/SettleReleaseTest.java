/** Promises 14 and 16. */
public final class SettleReleaseTest {
    public static void main(String[] args) {
        noSuch();
        settleCounts();
        settledHoweverTheyDiffer();
        settledOnlyWhatWasTold();
        settledByDeclaration();
        settledInAllInspections();
        releaseByStates();
        releaseInOrder();
        releaseBySamples();
        Check.finish();
    }

    private static void noSuch() {
        InspectSteps x = new InspectSteps();
        for (int wrong : new int[] {-1, 10, Scene.LOW, Scene.HIGH}) {
            Check.bad("settle " + wrong, () -> x.settle(wrong));
            Check.bad("release " + wrong, () -> x.release(wrong));
        }
        for (int d = 0; d < 10; d++) {
            Check.due("settle without results", 0, x.settle(d));
            Check.due("release", 0, x.release(d));
        }
    }

    private static void settleCounts() {
        InspectSteps x = Scene.sampled(2);
        for (int m = 0; m < 4; m++) {
            x.declared(0, m, 1000);
            x.tolerance(m, 10, 10);
        }
        x.result(0, 101, 0, 1000);
        x.result(0, 101, 1, 1015);
        x.result(0, 101, 2, 1021);
        x.result(1, 102, 3, 979);
        Check.due("differ by 2", 2, x.count(40));
        Check.due("settled", 2, x.settle(0));
        Check.due("settled twice", 0, x.settle(0));
        Check.due("they differ still", 2, x.count(40));
        x.result(1, 102, 0, 0);
        Check.due("one more", 3, x.count(40));
        Check.due("that one alone", 1, x.settle(0));
        Check.due("none", 0, x.settle(0));
    }

    private static void settledHoweverTheyDiffer() {
        InspectSteps x = Scene.sampled(1);
        x.result(0, 101, 0, 50);
        x.declared(0, 0, 50);
        Check.due("nothing differs", 0, x.settle(0));
        x.declared(0, 0, 10);
        Check.due("now it does", 1, x.count(40));
        Check.due("but it was settled", 0, x.settle(0));
        x.end(0, 0, true);
        x.seal(0, 1, 1, 2);
        Check.due("so it is no reason", 0, x.release(0));
    }

    private static void settledOnlyWhatWasTold() {
        InspectSteps x = Scene.sampled(1);
        x.declared(0, 0, 10);
        x.declared(0, 1, 10);
        x.result(0, 101, 0, 90);
        Check.due("one", 1, x.settle(0));
        Check.due("told later", 2, x.result(0, 101, 1, 90));
        x.end(0, 0, true);
        x.seal(0, 1, 1, 2);
        Check.due("that one is a reason", 5, x.release(0));
        Check.due("until it is settled", 1, x.settle(0));
        Check.due("released", 0, x.release(0));
    }

    private static void settledByDeclaration() {
        InspectSteps x = Scene.sampled(1);
        Scene.begun(x, 1, 4, 1);
        Check.due("sample", 1, x.sample(1, 200));
        x.declared(0, 0, 10);
        x.declared(1, 0, 10);
        x.result(0, 101, 0, 90);
        x.result(1, 200, 0, 90);
        Check.due("of the first", 1, x.count(40));
        Check.due("of the second", 1, x.count(41));
        Check.due("settled of the first", 1, x.settle(0));
        Check.due("the second one's is not", 1, x.settle(1));
    }

    private static void releaseByStates() {
        InspectSteps x = Scene.allRights();
        x.inspection(5, 0, 9);
        Check.due("another declaration", 0, x.release(4));
        Check.due("asked", 1, x.release(5));
        x.plan(0, 0, 0, 9);
        Check.due("planned", 1, x.release(5));
        x.begin(0, 0);
        Check.due("begun", 1, x.release(5));
        x.end(0, 0, false);
        Check.due("failed", 1, x.release(5));
        x.giveUp(0);
        Check.due("given up", 0, x.release(5));
        Scene.begun(x, 5, 1, 0);
        Check.due("a second one", 1, x.release(5));
        x.end(1, 0, true);
        Check.due("done", 0, x.release(5));
    }

    private static void releaseInOrder() {
        InspectSteps x = Scene.sampled(2);
        x.declared(0, 0, 10);
        x.result(0, 101, 0, 90);
        x.hold(0, 2, true);
        Check.due("inspections", 1, x.release(0));
        x.end(0, 0, true);
        Check.due("the seal", 2, x.release(0));
        x.seal(0, 1, 1, 2);
        Check.due("a hold", 3, x.release(0));
        x.hold(0, 2, false);
        Check.due("no result", 4, x.release(0));
        x.result(1, 102, 3, 0);
        Check.due("a difference", 5, x.release(0));
        x.settle(0);
        Check.due("nothing", 0, x.release(0));
        x.inspection(0, 0, 9);
        Check.due("inspections again", 1, x.release(0));
    }

    private static void releaseBySamples() {
        InspectSteps x = Scene.sampled(1);
        Scene.begun(x, 1, 3, 1);
        x.end(0, 0, false);
        x.giveUp(0);
        x.end(1, 0, true);
        x.seal(0, 1, 1, 2);
        x.seal(1, 2, 1, 2);
        Check.due("a sample of a given up one counts", 4, x.release(0));
        Check.due("of another declaration none", 0, x.release(1));
        x.declared(0, 3, 100);
        x.tolerance(3, 10, 10);
        Check.due("differs by 1", 1, x.result(0, 101, 3, 102));
        Check.due("that is no reason", 0, x.release(0));
        x.tolerance(3, 0, 10);
        Check.due("by 2 it is", 5, x.release(0));
    }

    private static void settledInAllInspections() {
        InspectSteps x = Scene.sampled(1);
        Scene.begun(x, 0, 4, 1);
        x.sample(1, 200);
        for (int m = 0; m < 4; m++) {
            x.declared(0, m, 10);
            x.result(0, 101, m, 90);
            x.result(1, 200, m, 90);
        }
        Check.due("differ by 2", 8, x.count(40));
        Check.due("of both inspections", 8, x.settle(0));
        Check.due("they differ still", 8, x.count(40));
        Check.due("none is left", 0, x.settle(0));
    }
}
