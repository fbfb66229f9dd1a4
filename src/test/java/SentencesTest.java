import java.io.IOException;
import java.nio.file.Files;
import java.nio.file.Path;

/**
 * Sentence by sentence: what the document says, its edges above all, beside runs that make just
 * that case. The second argument is the document: what is quoted must stand there, and
 * nothing that its terms and promises say may be left without a run.
 */
public final class SentencesTest {
  public static void main(String[] args) throws IOException {
    Check check = new Check("SentencesTest");
    boolean isThere = args.length > 1 && Files.isRegularFile(Path.of(args[1]));
    Sentences sentences = new Sentences(check, isThere ? Files.readString(Path.of(args[1])) : "");
    Script script = new Script(check, sentences);
    TermsRuns.play(script);
    FigureRuns.play(script);
    BoundsRuns.play(script);
    FactorsRuns.play(script);
    BodyRuns.play(script);
    ShadowRuns.play(script);
    ProgramsRuns.play(script);
    sentences.allQuoted();
    check.end();
  }
}
