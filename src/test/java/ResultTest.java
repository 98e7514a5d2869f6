/** Promises 10, 11 and 12. */
public final class ResultTest {
    public static void main(String[] args) {
        refused();
        sealsOfOthers();
        argumentsBeforeRefusals();
        onceForEachMeasure();
        toldBehindTheInspection();
        edgesOfTolerances();
        largest();
        declaredOf();
        declaredLater();
        declaredRefused();
        everyDeclarationAndMeasure();
        toleranceLater();
        toleranceRefused();
        Check.finish();
    }

    private static void refused() {
        InspectSteps none = Scene.opened();
        Check.bad("no sample yet", () -> none.result(0, 101, 0, 5));
        InspectSteps x = Scene.sampled(1);
        for (int wrong : new int[] {-1, 1, Scene.LOW, Scene.HIGH}) {
            Check.bad("sample " + wrong, () -> x.result(wrong, 101, 0, 5));
        }
        for (int wrong : new int[] {-1, 4, Scene.LOW, Scene.HIGH}) {
            Check.bad("measure " + wrong, () -> x.result(0, 101, wrong, 5));
        }
        for (int wrong : new int[] {-1, 0, 1000001, Scene.LOW, Scene.HIGH}) {
            Check.bad("seal " + wrong, () -> x.result(0, wrong, 0, 5));
        }
        for (int wrong : new int[] {-1, 1000001, Scene.LOW, Scene.HIGH}) {
            Check.bad("value " + wrong, () -> x.result(0, 101, 0, wrong));
        }
        Check.due("none was taken", 0, x.result(0, 101, 0, 5));
        Check.bad("an exception comes before a refusal", () -> x.result(0, 101, 0, -1));
    }

    private static void sealsOfOthers() {
        InspectSteps x = Scene.sampled(2);
        Check.due("another sample's", -2, x.result(0, 102, 0, 5));
        Check.due("nobody's", -3, x.result(0, 103, 0, 5));
        Check.due("neither was taken here", 0, x.result(0, 101, 0, 5));
        Check.due("nor there", 0, x.result(1, 102, 0, 5));
        x.end(0, 0, true);
        x.seal(0, 500, 1, 2);
        Check.due("a declaration's seal is no sample's", -3, x.result(0, 500, 1, 5));
        Check.due("told comes before another's", -1, x.result(0, 102, 0, 5));
        Check.due("told comes before nobody's", -1, x.result(0, 103, 0, 5));
    }

    private static void onceForEachMeasure() {
        InspectSteps x = Scene.sampled(2);
        for (int m = 0; m < 4; m++) {
            Check.due("measure " + m, 0, x.result(0, 101, m, 0));
            Check.due("again", -1, x.result(0, 101, m, 0));
            Check.due("with another value", -1, x.result(0, 101, m, 9));
            Check.due("of another sample", 0, x.result(1, 102, m, 0));
        }
        x.declared(0, 0, 0);
        Check.due("the first value stays", 0, x.count(40));
        x.end(0, 0, true);
        x.tick(100000);
        Check.due("it may be told late, still once", -1, x.result(0, 101, 0, 5));
    }

    private static void edgesOfTolerances() {
        // Declared, up, down, found, how it differs.
        int[][] rows = {
            {1000, 10, 20, 1000, 0}, {1000, 10, 20, 1010, 0}, {1000, 10, 20, 1011, 1},
            {1000, 10, 20, 1020, 1}, {1000, 10, 20, 1021, 2}, {1000, 10, 20, 980, 0},
            {1000, 10, 20, 979, 1}, {1000, 10, 20, 960, 1}, {1000, 10, 20, 959, 2},
            {105, 50, 100, 110, 0}, {99, 50, 100, 110, 2}, {100, 50, 100, 110, 1},
            {999, 1, 0, 1000, 1}, {1000, 1, 0, 1001, 0}, {1001, 1, 0, 1002, 0},
            {500, 1, 1, 501, 1}, {501, 1, 1, 502, 1}, {499, 1, 1, 500, 2},
            {500, 1, 1, 499, 1}, {499, 1, 1, 498, 2}, {1000, 1, 1, 999, 0}, {999, 1, 1, 998, 1},
            {1500, 1, 1, 1502, 1}, {1500, 1, 1, 1503, 1}, {1500, 1, 1, 1504, 2},
            {7, 0, 0, 7, 0}, {7, 0, 0, 8, 2}, {7, 0, 0, 6, 2},
            {0, 1000, 1000, 0, 0}, {0, 1000, 1000, 1, 2},
            {10, 1000, 1000, 0, 0}, {10, 1000, 1000, 20, 0}, {10, 1000, 1000, 21, 1},
            {10, 1000, 1000, 30, 1}, {10, 1000, 1000, 31, 2},
            {10, 0, 500, 0, 1}, {10, 0, 499, 0, 2}, {10, 0, 1000, 11, 2}, {10, 1000, 0, 9, 2}};
        for (int[] row : rows) {
            for (int m = 0; m < 4; m++) {
                InspectSteps x = Scene.sampled(1);
                x.declared(0, m, row[0]);
                x.tolerance(m, row[1], row[2]);
                String call = "found " + row[3] + " of " + row[0] + " by " + row[1] + ", " + row[2];
                Check.due(call, row[4], x.result(0, 101, m, row[3]));
                Check.due(call + ", counted", row[4] == 2 ? 1 : 0, x.count(40));
            }
        }
    }

    private static void largest() {
        InspectSteps x = Scene.sampled(3);
        x.declared(0, 0, 1000000);
        x.tolerance(0, 1000, 1000);
        Check.due("all of it missing", 0, x.result(0, 101, 0, 0));
        x.tolerance(0, 0, 500);
        Check.due("twice the half is not more", 1, x.result(1, 102, 0, 0));
        x.tolerance(0, 0, 499);
        Check.due("more than twice", 2, x.result(2, 103, 0, 0));
        InspectSteps y = Scene.sampled(2);
        y.tolerance(1, 1000, 1000);
        y.declared(0, 1, 0);
        Check.due("all of it too much", 2, y.result(0, 101, 1, 1000000));
        y.declared(0, 1, 1000000);
        Check.due("as declared", 0, y.result(1, 102, 1, 1000000));
    }

    private static void declaredOf() {
        InspectSteps x = Scene.sampled(1);
        Check.yes("of another declaration", x.declared(1, 0, 5));
        Check.yes("of another measure", x.declared(0, 1, 5));
        Check.due("without a declared value", 0, x.result(0, 101, 0, 900));
        Check.due("with one", 2, x.result(0, 101, 1, 900));
        Check.due("of this declaration", 1, x.count(40));
        Check.due("of the other", 0, x.count(41));
    }

    private static void declaredLater() {
        InspectSteps x = Scene.sampled(1);
        Check.due("nothing declared", 0, x.result(0, 101, 2, 50));
        Check.yes("declared later", x.declared(0, 2, 40));
        Check.due("it differs", 1, x.count(40));
        Check.yes("declared anew", x.declared(0, 2, 50));
        Check.due("it does not", 0, x.count(40));
        Check.yes("the same anew", x.declared(0, 2, 50));
        Check.yes("nothing of it", x.declared(0, 2, 0));
        Check.due("it differs again", 1, x.count(40));
    }

    private static void declaredRefused() {
        InspectSteps x = Scene.sampled(1);
        Check.yes("declared", x.declared(0, 0, 7));
        for (int wrong : new int[] {-1, 10, Scene.LOW, Scene.HIGH}) {
            Check.no("declaration " + wrong, x.declared(wrong, 0, 5));
        }
        for (int wrong : new int[] {-1, 4, Scene.LOW, Scene.HIGH}) {
            Check.no("measure " + wrong, x.declared(0, wrong, 5));
        }
        for (int wrong : new int[] {-1, 1000001, Scene.LOW, Scene.HIGH}) {
            Check.no("value " + wrong, x.declared(0, 0, wrong));
        }
        Check.due("7 is still declared", 0, x.result(0, 101, 0, 7));
        Check.due("and nothing else", 2, Scene.sampledAnd(x, 102, 0, 8));
        Check.yes("the least", x.declared(9, 3, 0));
        Check.yes("the largest", x.declared(9, 3, 1000000));
    }

    private static void toleranceLater() {
        InspectSteps x = Scene.sampled(1);
        x.declared(0, 2, 100);
        Check.due("without a tolerance", 2, x.result(0, 101, 2, 101));
        Check.yes("a tolerance", x.tolerance(2, 10, 0));
        Check.due("holds for results that were told", 0, x.count(40));
        Check.yes("the same again", x.tolerance(2, 10, 0));
        Check.yes("of another measure", x.tolerance(1, 0, 0));
        Check.due("is no matter", 0, x.count(40));
        Check.yes("none any more", x.tolerance(2, 0, 1000));
        Check.due("it differs again", 1, x.count(40));
    }

    private static void toleranceRefused() {
        InspectSteps x = Scene.sampled(1);
        x.declared(0, 0, 100);
        x.tolerance(0, 10, 10);
        for (int wrong : new int[] {-1, 4, Scene.LOW, Scene.HIGH}) {
            Check.no("measure " + wrong, x.tolerance(wrong, 0, 0));
        }
        for (int wrong : new int[] {-1, 1001, Scene.LOW, Scene.HIGH}) {
            Check.no("up " + wrong, x.tolerance(0, wrong, 0));
            Check.no("down " + wrong, x.tolerance(0, 0, wrong));
        }
        Check.due("the one that was told stays, up", 0, x.result(0, 101, 0, 101));
        Check.due("and down", 0, Scene.sampledAnd(x, 102, 0, 99));
        Check.yes("the largest", x.tolerance(3, 1000, 1000));
        Check.yes("the least", x.tolerance(3, 0, 0));
    }

    private static void argumentsBeforeRefusals() {
        InspectSteps x = Scene.sampled(2);
        Check.bad("another's seal, no value", () -> x.result(0, 102, 0, 1000001));
        Check.bad("another's seal, no measure", () -> x.result(0, 102, 4, 5));
        Check.bad("nobody's seal, no value", () -> x.result(0, 103, 0, -1));
        Check.bad("a sample's seal, no such sample", () -> x.result(2, 102, 0, 5));
        x.result(0, 101, 0, 5);
        Check.bad("told, no seal", () -> x.result(0, 0, 0, 5));
        Check.bad("told, no value", () -> x.result(0, 101, 0, 1000001));
    }

    /** A result may be told whatever has become of the inspection. */
    private static void toldBehindTheInspection() {
        for (int fate = 0; fate < 4; fate++) {
            InspectSteps x = Scene.sampled(1);
            x.declared(0, 0, 10);
            x.end(0, 0, fate == 0);
            if (fate == 2) {
                x.plan(0, 0, 0, 5);
            } else if (fate == 3) {
                x.giveUp(0);
            }
            x.tick(100000);
            Check.due("fate " + fate, 2, x.result(0, 101, 0, 11));
            Check.due("counted", 1, x.count(40));
        }
    }

    private static void everyDeclarationAndMeasure() {
        InspectSteps x = new InspectSteps();
        for (int d = 0; d < 10; d++) {
            for (int m = 0; m < 4; m++) {
                Check.yes("the least", x.declared(d, m, 0));
                Check.yes("the largest", x.declared(d, m, 1000000));
                Check.no("less", x.declared(d, m, -1));
                Check.no("more", x.declared(d, m, 1000001));
            }
        }
        InspectSteps y = Scene.sampled(1);
        y.result(0, 101, 0, 50);
        Check.no("refused", y.declared(0, 0, -1));
        Check.no("refused", y.declared(0, 0, 1000001));
        Check.due("so nothing is declared still", 0, y.count(40));
    }
}
