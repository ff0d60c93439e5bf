import java.io.IOException;
import java.nio.file.Files;
import java.nio.file.Path;
import java.util.ArrayList;
import java.util.List;

/** Each sentence of the document that names a boundary case has a test of its own, in the classes of Sentences. */
public final class BoundaryTest {
  public static void main(String[] args) throws IOException, ReflectiveOperationException {
    run(Path.of(args[1], "DOC.md")).end();
  }

  static Checks run(Path document) throws IOException, ReflectiveOperationException {
    Checks checks = new Checks();
    List<Says> done = new ArrayList<>();
    Sentences[] all = {
      new TermsSentences(), new StepsSentences(), new ActsSentences(), new AsksSentences(), new WholeSentences(),
      new OrderSentences()
    };
    for (Sentences some : all) {
      some.runAll(checks, done);
    }
    checks.part("the document");
    String[] rows = Files.readString(document).split("\n");
    standInTheDocument(checks, rows, done);
    allExceptionsAreTested(checks, rows, done);
    return checks;
  }

  /** The words of each test are words of the document, under that heading. */
  private static void standInTheDocument(Checks checks, String[] rows, List<Says> done) {
    for (Says says : done) {
      StringBuilder part = new StringBuilder();
      boolean isIn = false;
      for (String row : rows) {
        if (isHeading(row)) {
          isIn = row.endsWith(says.at());
        } else if (isIn) {
          part.append(row.trim()).append(' ');
        }
      }
      due(checks, says.at() + " says: " + says.words(), part.indexOf(says.words()) >= 0);
    }
  }

  /** Each "Throws", and each "Returns" with REFUSED, of each promise has a test of its words. */
  private static void allExceptionsAreTested(Checks checks, String[] rows, List<Says> done) {
    String heading = "";
    for (String row : rows) {
      if (isHeading(row)) {
        heading = row;
      }
      if (row.startsWith("Throws ") || (row.startsWith("Returns ") && row.contains("REFUSED"))) {
        boolean isTested = false;
        for (Says says : done) {
          isTested = isTested || (heading.endsWith(says.at()) && row.contains(says.words()));
        }
        due(checks, heading + " is tested: " + row, isTested);
      }
    }
  }

  private static boolean isHeading(String row) {
    return row.startsWith("## ") || row.startsWith("== ");
  }

  private static void due(Checks checks, String what, boolean isSo) {
    checks.due(what, true, () -> isSo);
  }
}
