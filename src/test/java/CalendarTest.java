import java.util.NoSuchElementException;

/** Promises 18 to 24: shifts left, next shifts, counts, owed shifts, shares and means. */
public final class CalendarTest {
  private static final Class<?> RANGE = IllegalArgumentException.class;
  private static final Class<?> INDEX = IndexOutOfBoundsException.class;
  private static final Class<?> NONE = NoSuchElementException.class;
  private static final Class<?> NUMBERS = ArithmeticException.class;
  private static final int[] WILD = {Integer.MIN_VALUE, -1, 8, Integer.MAX_VALUE};

  private static final Check check = new Check("CalendarTest");

  public static void main(String[] args) {
    promises18And19Left();
    promises18And19InNoQueue();
    promises18To21WrongInputs();
    promise20NextAt();
    promise21Count();
    promise21WrongInputs();
    promise22MostOwed();
    promise22LowestUser();
    promise22OverAllProposals();
    promise23DoneShare();
    promise24MeanScore();
    check.end();
  }

  private static void lose(BeamOffice x, int beamline, int shifts) {
    for (int i = 0; i < shifts; i++) {
      x.fail(beamline);
      x.pass(1);
    }
  }

  private static void dueLeft(BeamOffice x, String what, int... want) {
    for (int i = 0; i < want.length; i++) {
      check.due("18: " + what + ", left of " + i, want[i], x.left(i));
      check.due("19: " + what + ", left anew of " + i, want[i], x.leftAnew(i));
    }
  }

  private static void promises18And19Left() {
    BeamOffice x = new BeamOffice();
    x.addBeamline(9, 100);
    x.addBeamline(4, 100);
    x.propose(0, 1, 50, 3, 0);
    x.propose(0, 2, 60, 2, 0);
    x.propose(0, 2, 60, 3, 0);
    x.propose(1, 3, 10, 4, 0);
    x.pass(5);
    dueLeft(x, "before the panel", 0, 0, 0, 0);
    x.meet(0);
    dueLeft(x, "behind the panel", 3, 2, 3, 0);
    x.pass(1);
    dueLeft(x, "one missed", 3, 1, 3, 0);
    lose(x, 0, 1);
    dueLeft(x, "one lost to the reserve", 3, 1, 3, 0);
    x.meet(1);
    dueLeft(x, "both panels", 3, 1, 3, 4);
    lose(x, 0, 2);
    dueLeft(x, "two lost to the last", 1, 1, 3, 2);
    x.train(2);
    x.setThere(2, true);
    x.bring(1, 9);
    x.put(1, 'b');
    check.due("18: one is done", 1, x.pass(1));
    dueLeft(x, "one done", 1, 0, 3, 1);
    lose(x, 0, 2);
    dueLeft(x, "lost to the one ahead", 0, 0, 2, 0);
    lose(x, 1, 1);
    dueLeft(x, "nothing to lose there", 0, 0, 1, 0);
    x.pass(20);
    dueLeft(x, "at the end", 0, 0, 0, 0);
    dueLeft(x, "asked again", 0, 0, 0, 0);
  }

  private static void promises18And19InNoQueue() {
    BeamOffice x = new BeamOffice();
    x.addBeamline(5, 100);
    x.propose(0, 1, 50, 3, 0);
    x.propose(0, 2, 40, 3, 0);
    x.propose(0, 2, 30, 2, 0);
    x.meet(0);
    dueLeft(x, "one has none", 3, 0, 2);
    x.pass(4);
    dueLeft(x, "it stays so", 0, 0, 1);
  }

  private static void promises18To21WrongInputs() {
    BeamOffice x = new BeamOffice();
    check.dueThrow("18: no proposal", INDEX, () -> x.left(0));
    check.dueThrow("19: no proposal", INDEX, () -> x.leftAnew(0));
    check.dueThrow("20: no proposal", INDEX, () -> x.nextAt(0));
    check.dueThrow("21: no proposal", INDEX, () -> x.count(0, 'd'));
    x.addBeamline(5, 100);
    x.propose(0, 1, 50, 3, 0);
    check.dueThrow("18: proposal 1", INDEX, () -> x.left(1));
    check.dueThrow("19: proposal 1", INDEX, () -> x.leftAnew(1));
    check.dueThrow("20: proposal 1", INDEX, () -> x.nextAt(1));
    check.dueThrow("21: proposal 1", INDEX, () -> x.count(1, 'd'));
    for (int wild : WILD) {
      check.dueThrow("18: proposal " + wild, INDEX, () -> x.left(wild));
      check.dueThrow("19: proposal " + wild, INDEX, () -> x.leftAnew(wild));
      check.dueThrow("20: proposal " + wild, INDEX, () -> x.nextAt(wild));
      check.dueThrow("21: proposal " + wild, INDEX, () -> x.count(wild, 'd'));
    }
  }

  private static void promise20NextAt() {
    BeamOffice x = new BeamOffice();
    x.addBeamline(9, 100);
    x.propose(0, 1, 50, 3, 0);
    x.propose(0, 2, 60, 2, 0);
    x.propose(0, 3, 10, 9, 0);
    x.propose(0, 4, 40, 2, 0);
    check.dueThrow("20: before the panel", NONE, () -> x.nextAt(0));
    x.pass(3);
    x.meet(0);
    check.due("20: the one that is on begins now", 3, x.nextAt(1));
    check.due("20: behind one", 5, x.nextAt(0));
    check.due("20: behind two", 8, x.nextAt(3));
    check.dueThrow("20: in no queue", NONE, () -> x.nextAt(2));
    x.pass(1);
    check.due("20: still on", 4, x.nextAt(1));
    check.due("20: the same while it runs", 5, x.nextAt(0));
    lose(x, 0, 1);
    check.due("20: a lost shift is one later", 6, x.nextAt(0));
    check.due("20: for the last, too", 9, x.nextAt(3));
    x.pass(1);
    check.dueThrow("20: none left", NONE, () -> x.nextAt(1));
    lose(x, 0, 4);
    check.dueThrow("20: none left by lost ones", NONE, () -> x.nextAt(3));
    check.due("20: on, behind one that has run", 10, x.nextAt(0));
  }

  private static void promise21Count() {
    BeamOffice x = new BeamOffice();
    x.addBeamline(5, 100);
    x.propose(0, 1, 50, 3, 0);
    x.propose(0, 2, 40, 2, 0);
    x.meet(0);
    x.train(1);
    x.setThere(1, true);
    x.bring(0, 9);
    x.put(0, 'b');
    x.pass(2);
    x.put(0, 'r');
    lose(x, 0, 1);
    x.pass(1);
    check.due("21: done", 2, x.count(0, 'd'));
    check.due("21: missed", 1, x.count(0, 'm'));
    check.due("21: lost while it was on", 1, x.count(0, 'l'));
    check.due("21: owed to the other", 0, x.count(0, 'o'));
    check.due("21: not done", 0, x.count(1, 'd'));
    check.due("21: not missed", 0, x.count(1, 'm'));
    check.due("21: not on when it was lost", 0, x.count(1, 'l'));
    check.due("21: owed", 1, x.count(1, 'o'));
    x.pass(5);
    check.due("21: nothing more when none is left", 1, x.count(1, 'm'));
  }

  private static void promise21WrongInputs() {
    BeamOffice x = new BeamOffice();
    x.addBeamline(5, 100);
    x.propose(0, 1, 50, 3, 0);
    char[] noKinds = {'x', 'D', 'M', 'L', 'O', 'q', 'i', 'f', '-', 0, 65535};
    for (char kind : noKinds) {
      check.dueThrow("21: kind " + (int) kind, RANGE, () -> x.count(0, kind));
    }
    check.dueThrow("21: the proposal comes first", INDEX, () -> x.count(1, 'x'));
    check.due("21: none before the panel", 0, x.count(0, 'o'));
  }

  private static void promise22MostOwed() {
    BeamOffice x = new BeamOffice();
    check.dueThrow("22: a new office", NONE, x::mostOwed);
    x.addBeamline(6, 100);
    x.propose(0, 9, 50, 2, 0);
    x.propose(0, 5, 40, 1, 0);
    x.propose(0, 7, 30, 2, 0);
    x.meet(0);
    lose(x, 0, 1);
    check.dueThrow("22: the reserve owes nobody", NONE, x::mostOwed);
    lose(x, 0, 1);
    check.due("22: the only one", 7, x.mostOwed());
    lose(x, 0, 2);
    check.due("22: two against one", 7, x.mostOwed());
    lose(x, 0, 2);
    check.due("22: two against two", 7, x.mostOwed());
  }

  private static void promise22LowestUser() {
    BeamOffice x = new BeamOffice();
    x.addBeamline(3, 100);
    x.propose(0, 0, 50, 3, 0);
    x.meet(0);
    lose(x, 0, 1);
    check.due("22: the user 0", 0, x.mostOwed());
    BeamOffice y = new BeamOffice();
    y.addBeamline(3, 100);
    y.propose(0, 9, 50, 3, 0);
    y.meet(0);
    lose(y, 0, 1);
    check.due("22: the user 9", 9, y.mostOwed());
  }

  private static void promise22OverAllProposals() {
    BeamOffice x = new BeamOffice();
    x.addBeamline(4, 100);
    x.addBeamline(4, 100);
    x.propose(0, 0, 50, 1, 0);
    x.propose(0, 3, 40, 1, 0);
    x.propose(0, 8, 30, 2, 0);
    x.propose(1, 3, 20, 4, 0);
    x.meet(0);
    x.meet(1);
    lose(x, 0, 2);
    check.due("22: two of the user 8", 8, x.mostOwed());
    lose(x, 0, 1);
    check.due("22: one of the user 3", 8, x.mostOwed());
    check.due("22: what was missed is not owed", 0, x.count(3, 'o'));
    lose(x, 1, 1);
    check.due("22: one at the first beamline", 1, x.count(1, 'o'));
    check.due("22: one at the second", 1, x.count(3, 'o'));
    check.due("22: two of the user 3, as many as of 8", 3, x.mostOwed());
    BeamOffice y = new BeamOffice();
    y.addBeamline(4, 100);
    y.addBeamline(4, 100);
    y.propose(0, 8, 50, 4, 0);
    y.propose(1, 3, 50, 4, 0);
    y.meet(0);
    y.meet(1);
    y.fail(0);
    y.fail(1);
    y.pass(1);
    check.due("22: of two the lowest", 3, y.mostOwed());
    lose(y, 0, 1);
    check.due("22: then the one with more", 8, y.mostOwed());
    BeamOffice z = new BeamOffice();
    z.addBeamline(4, 100);
    z.addBeamline(4, 100);
    z.propose(0, 6, 50, 4, 0);
    z.propose(1, 6, 50, 2, 0);
    z.propose(1, 2, 40, 2, 0);
    z.meet(0);
    z.meet(1);
    z.fail(0);
    z.fail(1);
    z.pass(1);
    check.due("22: one each", 2, z.mostOwed());
    z.fail(1);
    z.pass(1);
    check.due("22: two of the user 2", 2, z.mostOwed());
    z.fail(0);
    z.fail(1);
    z.pass(1);
    check.due("22: a proposal each at both beamlines", 6, z.mostOwed());
  }

  private static void promise23DoneShare() {
    BeamOffice x = new BeamOffice();
    check.dueThrow("23: a new office", NUMBERS, x::doneShare);
    x.addBeamline(9, 100);
    x.addBeamline(9, 100);
    x.propose(0, 1, 50, 3, 0);
    x.propose(1, 1, 40, 5, 0);
    x.pass(1);
    check.dueThrow("23: no shift of a proposal", NUMBERS, x::doneShare);
    x.meet(0);
    x.train(1);
    x.setThere(1, true);
    lose(x, 0, 1);
    check.due("23: one lost", 0.0f, x.doneShare());
    x.bring(0, 9);
    x.put(0, 'b');
    x.pass(1);
    check.due("23: one done", 0.5f, x.doneShare());
    x.put(0, 'r');
    x.pass(1);
    check.due("23: one missed", 1.0f / 3.0f, x.doneShare());
    x.meet(1);
    x.pass(4);
    check.due("23: over all beamlines", 1.0f / 8.0f, x.doneShare());
    x.bring(1, 9);
    x.put(1, 'b');
    x.pass(1);
    check.due("23: done at the other", 2.0f / 9.0f, x.doneShare());
    x.pass(9);
    check.due("23: nothing more when none is on", 2.0f / 9.0f, x.doneShare());
    BeamOffice y = new BeamOffice();
    y.addBeamline(3, 100);
    y.propose(0, 1, 50, 3, 0);
    y.meet(0);
    lose(y, 0, 2);
    check.due("23: an owed shift is not counted twice", 0.0f, y.doneShare());
    y.train(1);
    y.setThere(1, true);
    y.bring(0, 9);
    y.put(0, 'b');
    y.pass(1);
    check.due("23: one done, two lost", 1.0f / 3.0f, y.doneShare());
  }

  private static void promise24MeanScore() {
    BeamOffice x = new BeamOffice();
    check.dueThrow("24: a new office", NUMBERS, x::meanScore);
    x.addBeamline(9, 100);
    x.addBeamline(9, 100);
    x.propose(0, 1, 50, 3, 0);
    x.propose(0, 1, 45, 4, 0);
    x.propose(0, 1, 40, 9, 0);
    x.propose(1, 1, 100, 5, 0);
    x.propose(1, 1, 0, 2, 0);
    check.dueThrow("24: before the panels", NUMBERS, x::meanScore);
    x.meet(0);
    check.due("24: those of one queue", 95.0 / 2.0, x.meanScore());
    x.meet(1);
    check.due("24: those of both queues", 195.0 / 4.0, x.meanScore());
    x.pass(20);
    check.due("24: also those that have run", 195.0 / 4.0, x.meanScore());
    BeamOffice y = new BeamOffice();
    y.addBeamline(9, 100);
    y.propose(0, 1, 0, 3, 0);
    y.meet(0);
    check.due("24: a score of 0", 0.0, y.meanScore());
    BeamOffice z = new BeamOffice();
    z.addBeamline(9, 100);
    for (int i = 0; i < 3; i++) {
      z.propose(0, 1, i == 0 ? 2 : 1, 1, 0);
    }
    z.meet(0);
    check.due("24: as a double", 4.0 / 3.0, z.meanScore());
  }
}
