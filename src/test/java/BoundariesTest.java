/**
 * Each sentence of the document that names a boundary case has a test of its own here: the last
 * value that is allowed and the first that is not, empty and full, and calls that are refused.
 */
public final class BoundariesTest {
  public static void main(String[] args) {
    Check check = new Check("BoundariesTest");
    Document document = new Document(check);
    new TermBoundaries(check, document).run();
    new ShiftTermBoundaries(check, document).run();
    new BeamlineBoundaries(check, document).run();
    new PeopleBoundaries(check, document).run();
    new ShutterBoundaries(check, document).run();
    new CalendarBoundaries(check, document).run();
    document.dueAllQuoted();
    check.end();
  }
}
