import java.io.IOException;
import java.nio.charset.StandardCharsets;
import java.nio.file.Files;
import java.nio.file.Path;
import java.util.ArrayList;
import java.util.List;

/**
 * Each boundary that a sentence of the document names, as a case by itself. Run from the project's folder: the sentences
 * that the cases name must stand in the document. With an argument it prints how many cases each sentence has.
 */
public final class BoundaryTest {
    private static final int PROMISES = 37;

    private BoundaryTest() {
    }

    public static void main(String[] args) throws IOException {
        Check check = new Check("BoundaryTest");
        Cases[] groups = {new ReachCases(check), new LakeCases(check), new HoldCases(check),
            new TakesCases(check), new CallCases(check), new TapeCases(check),
            new TextCases(check), new MonthCases(check), new IfCases(check), new HeldCases(check),
            new DryCases(check), new SheetCases(check), new HostCases(check), new AnewCases(check)};
        List<Cases.Sentence> sentences = new ArrayList<>();
        for (Cases group : groups) {
            group.work();
            sentences.addAll(group.sentences);
        }
        standInDocument(check, sentences);
        coverPromises(check, sentences);
        if (args.length > 0) {
            for (Cases.Sentence sentence : sentences) {
                System.out.println(sentence.promise + "\t" + sentence.cases + "\t" + sentence.words);
            }
        }
        check.end();
    }

    private static String plain(String words) {
        return words.replaceAll("\\s+", " ");
    }

    private static void standInDocument(Check check, List<Cases.Sentence> sentences) throws IOException {
        check.part("the sentences");
        String document = plain(Files.readString(Path.of("../shared/DOC.md"), StandardCharsets.UTF_8));
        for (Cases.Sentence sentence : sentences) {
            check.isTrue("the document says \"" + sentence.words + "\"", document.contains(plain(sentence.words)));
            check.isTrue("there is a case of \"" + sentence.words + "\"", sentence.cases > 0);
        }
    }

    private static void coverPromises(Check check, List<Cases.Sentence> sentences) {
        check.part("the promises");
        for (int promise = 1; promise <= PROMISES; promise++) {
            int cases = 0;
            for (Cases.Sentence sentence : sentences) {
                cases += sentence.promise == promise ? sentence.cases : 0;
            }
            check.isTrue("there is a case of promise " + promise, cases > 0);
        }
    }
}
