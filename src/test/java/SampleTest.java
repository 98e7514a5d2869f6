/** Promise 9. */
public final class SampleTest {
    public static void main(String[] args) {
        taken();
        refused();
        kindsAndStates();
        begunAgain();
        sealsOnce();
        forty();
        argumentsBeforeRefusals();
        Check.finish();
    }

    private static void taken() {
        InspectSteps x = Scene.opened();
        Check.due("the first", 0, x.sample(0, 1));
        Check.due("the second", 1, x.sample(0, 1000000));
        Scene.begun(x, 7, 4, 1);
        Check.due("of another inspection", 2, x.sample(1, 2));
        Check.due("samples", 3, x.count(1));
        Check.due("of the first inspection", 2, x.look(0, 8));
        Check.due("of the second", 1, x.look(1, 8));
        Check.due("costs", 400 + 2 * 50, x.count(30));
        Check.due("costs of the other", 500 + 50, x.count(37));
    }

    private static void refused() {
        InspectSteps x = Scene.opened();
        for (int wrong : new int[] {-1, 1, Scene.LOW, Scene.HIGH}) {
            Check.bad("inspection " + wrong, () -> x.sample(wrong, 5));
        }
        for (int wrong : new int[] {-1, 0, 1000001, Scene.LOW, Scene.HIGH}) {
            Check.bad("seal " + wrong, () -> x.sample(0, wrong));
        }
        Check.due("none was taken", 0, x.count(1));
        Check.due("nor paid", 400, x.count(30));
    }

    private static void kindsAndStates() {
        for (int kind = 0; kind < 5; kind++) {
            InspectSteps x = Scene.allRights();
            int due = kind >= 3 ? 0 : -1;
            x.inspection(0, kind, 5);
            Check.due("asked", -1, x.sample(0, 5));
            x.plan(0, 0, 0, 5);
            Check.due("planned", -1, x.sample(0, 5));
            x.begin(0, 0);
            Check.due("begun, of kind " + kind, due, x.sample(0, 5));
            x.end(0, 0, kind % 2 == 0);
            Check.due("ended", -1, x.sample(0, 6));
            x.giveUp(0);
            Check.due("given up", -1, x.sample(0, 6));
            Check.due("samples", due + 1, x.count(1));
            Check.due("of the inspection", due + 1, x.look(0, 8));
        }
    }

    private static void sealsOnce() {
        InspectSteps x = Scene.opened();
        Scene.begun(x, 1, 3, 1);
        Check.due("a seal", 0, x.sample(0, 44));
        Check.due("the same again", -1, x.sample(0, 44));
        Check.due("the same elsewhere", -1, x.sample(1, 44));
        Check.due("samples", 1, x.count(1));
        Check.due("costs", 450, x.count(30));
        Check.due("costs elsewhere", 400, x.count(31));
        x.end(0, 0, true);
        x.seal(0, 90, 1, 2);
        Check.due("a number of a declaration's seal was used for no sample", 1, x.sample(1, 90));
    }

    private static void forty() {
        InspectSteps x = Scene.sampled(40);
        Check.full("the 41st", () -> x.sample(0, 5));
        Check.full("with a seal that was used", () -> x.sample(0, 101));
        Check.bad("the inspection is told first", () -> x.sample(1, 5));
        Check.bad("the seal is told first", () -> x.sample(0, 0));
        x.end(0, 0, true);
        Check.full("when it is ended", () -> x.sample(0, 5));
        Check.due("samples", 40, x.count(1));
        Check.due("of the inspection", 40, x.look(0, 8));
        Check.due("costs", 400 + 40 * 50, x.count(30));
    }

    private static void begunAgain() {
        InspectSteps x = Scene.sampled(2);
        x.end(0, 0, false);
        Check.due("failed", -1, x.sample(0, 5));
        x.plan(0, 0, 0, 5);
        Check.due("planned again", -1, x.sample(0, 5));
        x.begin(0, 1);
        Check.due("begun again", 2, x.sample(0, 5));
        Check.due("with those of the first time", 3, x.look(0, 8));
        Check.due("whose seals are still used", -1, x.sample(0, 101));
        x.end(0, 1, true);
        Check.due("done", -1, x.sample(0, 6));
    }

    private static void argumentsBeforeRefusals() {
        InspectSteps x = Scene.allRights();
        Check.bad("no inspection yet", () -> x.sample(0, 5));
        x.inspection(0, 0, 5);
        Check.bad("of papers, seal 0", () -> x.sample(0, 0));
        Check.bad("of papers, seal 1000001", () -> x.sample(0, 1000001));
        Check.due("of papers", -1, x.sample(0, 5));
    }
}
