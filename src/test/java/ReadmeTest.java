import java.io.IOException;
import java.nio.file.Files;
import java.nio.file.Path;
import java.util.ArrayList;
import java.util.List;

/** README's example: the calls are those that stand there, and answer what its comments say. */
public final class ReadmeTest {
    private static final String BEGINS = "// The example begins.";
    private static final String ENDS = "// The example ends.";

    public static void main(String[] args) throws IOException {
        example();
        standsInReadme();
        Check.finish();
    }

    private static void example() {
        // The example begins.
        InspectSteps steps = new InspectSteps();
        steps.right(1, 3, true);                          // person 1 may open
        steps.right(1, 5, true);                          // persons 1 and 2 may set seals
        steps.right(2, 5, true);
        int opening = steps.inspection(0, 3, 50);         // declaration 0, kind 3, due at 50
        int planned = steps.plan(opening, 2, 10, 20);     // 1: it has place 2 from 10 to 20
        int tooEarly = steps.begin(opening, 1);           // 0: it is not its time
        steps.tick(10);                                   // now it is 10
        int begun = steps.begin(opening, 1);              // 1: begun, and the seal is broken
        int sample = steps.sample(opening, 77);           // 0: its number; 77 is its own seal
        int ended = steps.end(opening, 1, true);          // 1: done
        int whyOpen = steps.release(0);                   // 2: the seal is broken
        steps.seal(0, 5, 1, 2);                           // two people set the new seal 5
        int whyUntold = steps.release(0);                 // 4: the sample has no result
        steps.declared(0, 1, 1000);                       // of measure 1, 1000 are declared
        steps.tolerance(1, 10, 20);                       // 10 thousandths more, or 20 less, are fine
        int differs = steps.result(sample, 77, 1, 1021);  // 2: more than twice what is fine
        int whyDiffers = steps.release(0);                // 5: that is not settled
        int settled = steps.settle(0);                    // 1: so many were not
        int whyNot = steps.release(0);                    // 0: nothing is against it
        int costs = steps.count(30);                      // 450: 400 for the opening, 50 for the sample
        // The example ends.
        Check.due("planned", 1, planned);
        Check.due("tooEarly", 0, tooEarly);
        Check.due("begun", 1, begun);
        Check.due("sample", 0, sample);
        Check.due("ended", 1, ended);
        Check.due("whyOpen", 2, whyOpen);
        Check.due("whyUntold", 4, whyUntold);
        Check.due("differs", 2, differs);
        Check.due("whyDiffers", 5, whyDiffers);
        Check.due("settled", 1, settled);
        Check.due("whyNot", 0, whyNot);
        Check.due("costs", 450, costs);
    }

    /** .ci/run runs the tests at the top of the checkout. */
    private static void standsInReadme() throws IOException {
        List<String> told = between(Path.of("README.md"), "```java", "```");
        List<String> run = between(Path.of("src/test/java/ReadmeTest.java"), BEGINS, ENDS);
        Check.no("README has no example", told.isEmpty());
        Check.yes("README's example is not the one that runs here", told.equals(run));
    }

    private static List<String> between(Path file, String begins, String ends) throws IOException {
        List<String> lines = new ArrayList<>();
        boolean inside = false;
        for (String line : Files.readAllLines(file)) {
            String text = line.strip();
            if (inside && text.equals(ends)) {
                return lines;
            }
            if (inside) {
                lines.add(text);
            }
            inside |= text.equals(begins);
        }
        return lines;
    }
}
