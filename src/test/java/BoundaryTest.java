import java.util.ArrayList;
import java.util.List;

/** Each boundary that a sentence of the document names, as a case by itself. */
public final class BoundaryTest {
    private BoundaryTest() {
    }

    public static void main(String[] args) {
        Check check = new Check("BoundaryTest");
        Cases[] groups = {new ReachCases(check), new LakeCases(check), new HoldCases(check),
            new TakesCases(check), new CallCases(check), new TapeCases(check),
            new TextCases(check), new MonthCases(check)};
        List<Cases.Sentence> sentences = new ArrayList<>();
        for (Cases group : groups) {
            group.work();
            sentences.addAll(group.sentences);
        }
        check.end();
    }
}
