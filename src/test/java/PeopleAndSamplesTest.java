import java.util.NoSuchElementException;

/** Promises 7 to 11: training, presence, samples, their places and their lives. */
public final class PeopleAndSamplesTest {
  private static final Class<?> RANGE = IllegalArgumentException.class;
  private static final Class<?> STATE = IllegalStateException.class;
  private static final Class<?> INDEX = IndexOutOfBoundsException.class;
  private static final Class<?> NONE = NoSuchElementException.class;
  private static final Class<?> FULL = UnsupportedOperationException.class;
  private static final int[] WILD = {Integer.MIN_VALUE, -1, Integer.MAX_VALUE};

  private static final Check check = new Check("PeopleAndSamplesTest");

  public static void main(String[] args) {
    promise7Train();
    promise8SetThere();
    promise9Bring();
    promise9WrongInputs();
    promise10Put();
    promise10Cold();
    promise10WrongInputs();
    promise11Life();
    promise11Ages();
    check.end();
  }

  private static BeamOffice officeOf(int proposals) {
    BeamOffice x = new BeamOffice();
    x.addBeamline(40, 999);
    for (int i = 0; i < proposals; i++) {
      x.propose(0, i, 50, 5, 1);
    }
    return x;
  }

  private static void promise7Train() {
    BeamOffice x = new BeamOffice();
    for (int wild : WILD) {
      check.dueThrow("7: user " + wild, INDEX, () -> x.train(wild));
    }
    check.dueThrow("7: user 10", INDEX, () -> x.train(10));
    check.due("7: the last user", 1, x.train(9));
    check.due("7: the first user", 2, x.train(0));
    check.dueThrow("7: twice", STATE, () -> x.train(9));
    for (int user = 1; user < 9; user++) {
      check.due("7: user " + user, user + 2, x.train(user));
    }
    check.dueThrow("7: all are trained", STATE, () -> x.train(5));
    check.due("7: a trained user is not in the hall", false, x.setThere(9, true));
  }

  private static void promise8SetThere() {
    BeamOffice x = new BeamOffice();
    for (int wild : WILD) {
      check.dueThrow("8: user " + wild, INDEX, () -> x.setThere(wild, true));
    }
    check.dueThrow("8: user 10", INDEX, () -> x.setThere(10, true));
    check.due("8: nobody at first", false, x.setThere(9, true));
    check.due("8: comes again", true, x.setThere(9, true));
    check.due("8: leaves", true, x.setThere(9, false));
    check.due("8: leaves again", false, x.setThere(9, false));
    check.due("8: the other users are not there", false, x.setThere(0, false));
    check.due("8: who comes is not trained", 1, x.train(9));
  }

  private static void promise9Bring() {
    BeamOffice x = officeOf(2);
    check.due("9: none before", -1, x.bring(1, 50));
    check.due("9: the life", 50, x.life(1));
    check.due("9: the other has none", -1, x.bring(0, 1));
    check.due("9: in place of the first", 50, x.bring(1, 7));
    check.due("9: the new life", 7, x.life(1));
    check.due("9: in the room", 'r', x.put(1, 'b'));
    check.due("9: in place of one elsewhere", 7, x.bring(1, 8));
    check.due("9: in the room again", 'r', x.put(1, 'c'));
    x.pass(1);
    check.due("9: in place of a spoilt one", 0, x.bring(0, 9));
    check.due("9: in place of a cold one", 8, x.bring(1, 9));
    check.due("9: out of the cold", 'r', x.put(1, 'r'));
  }

  private static void promise9WrongInputs() {
    BeamOffice x = officeOf(1);
    for (int wild : WILD) {
      check.dueThrow("9: proposal " + wild, INDEX, () -> x.bring(wild, 5));
      check.dueThrow("9: life " + wild, RANGE, () -> x.bring(0, wild));
    }
    check.dueThrow("9: proposal 1", INDEX, () -> x.bring(1, 5));
    check.dueThrow("9: life 0", RANGE, () -> x.bring(0, 0));
    check.dueThrow("9: life 51", RANGE, () -> x.bring(0, 51));
    check.dueThrow("9: the proposal comes first", INDEX, () -> x.bring(1, 51));
    check.due("9: none was brought", -1, x.bring(0, 5));
    x.put(0, 'b');
    check.dueThrow("9: life 51 again", RANGE, () -> x.bring(0, 51));
    check.due("9: the sample is as it was", 5, x.life(0));
    check.due("9: and where it was", 'b', x.put(0, 'b'));
  }

  private static void promise10Put() {
    BeamOffice x = officeOf(1);
    x.bring(0, 1);
    check.due("10: from the room", 'r', x.put(0, 'r'));
    check.due("10: from the room again", 'r', x.put(0, 'b'));
    check.due("10: from the beamline", 'b', x.put(0, 'b'));
    check.due("10: from the beamline again", 'b', x.put(0, 'c'));
    check.due("10: from the cold", 'c', x.put(0, 'c'));
    check.due("10: from the cold again", 'c', x.put(0, 'r'));
    x.pass(1);
    check.due("10: a spoilt one is put, too", 'r', x.put(0, 'c'));
  }

  private static void promise10Cold() {
    BeamOffice x = officeOf(5);
    for (int i = 0; i < 5; i++) {
      x.bring(i, 1);
    }
    x.pass(1);
    x.put(0, 'c');
    x.put(1, 'c');
    x.bring(2, 9);
    check.due("10: a third, beside spoilt ones", 'r', x.put(2, 'c'));
    check.dueThrow("10: a fourth", FULL, () -> x.put(3, 'c'));
    check.due("10: one that is there", 'c', x.put(2, 'c'));
    check.due("10: the fourth elsewhere", 'r', x.put(3, 'b'));
    check.dueThrow("10: from the beamline", FULL, () -> x.put(3, 'c'));
    check.due("10: it stayed there", 'b', x.put(3, 'b'));
    x.put(1, 'b');
    check.due("10: when there is room", 'b', x.put(3, 'c'));
    check.dueThrow("10: the room is gone", FULL, () -> x.put(1, 'c'));
    x.bring(0, 4);
    check.due("10: a new sample makes room", 'b', x.put(1, 'c'));
    check.dueThrow("10: again full", FULL, () -> x.put(4, 'c'));
  }

  private static void promise10WrongInputs() {
    BeamOffice x = officeOf(5);
    for (int wild : WILD) {
      check.dueThrow("10: proposal " + wild, INDEX, () -> x.put(wild, 'r'));
    }
    check.dueThrow("10: proposal 5", INDEX, () -> x.put(5, 'r'));
    check.dueThrow("10: the proposal comes first", INDEX, () -> x.put(5, 'x'));
    char[] noPlaces = {'x', 'R', 'C', 'B', 'q', 'd', 'a', 's', 0, ' ', 65535};
    for (char place : noPlaces) {
      check.dueThrow("10: place " + (int) place, RANGE, () -> x.put(0, place));
    }
    check.dueThrow("10: no sample", NONE, () -> x.put(0, 'r'));
    check.dueThrow("10: no sample for the cold", NONE, () -> x.put(0, 'c'));
    for (int i = 1; i < 4; i++) {
      x.bring(i, 5);
      x.put(i, 'c');
    }
    check.dueThrow("10: no sample comes before the full cold", NONE, () -> x.put(0, 'c'));
    x.bring(0, 5);
    check.dueThrow("10: the place comes before the full cold", RANGE, () -> x.put(0, 'x'));
    check.dueThrow("10: the full cold", FULL, () -> x.put(0, 'c'));
    check.due("10: nothing was changed", 'r', x.put(0, 'r'));
  }

  private static void promise11Life() {
    BeamOffice x = officeOf(2);
    for (int wild : WILD) {
      check.dueThrow("11: proposal " + wild, INDEX, () -> x.life(wild));
    }
    check.dueThrow("11: proposal 2", INDEX, () -> x.life(2));
    check.dueThrow("11: no sample", NONE, () -> x.life(0));
    x.bring(0, 2);
    check.due("11: the life", 2, x.life(0));
    check.dueThrow("11: the other has none", NONE, () -> x.life(1));
    x.pass(1);
    check.due("11: one shift later", 1, x.life(0));
    x.pass(1);
    check.due("11: spoilt", 0, x.life(0));
    x.pass(20);
    check.due("11: spoilt for good", 0, x.life(0));
    check.dueThrow("11: still none", NONE, () -> x.life(1));
  }

  private static void promise11Ages() {
    BeamOffice x = officeOf(3);
    for (int i = 0; i < 3; i++) {
      x.bring(i, 30);
    }
    x.put(1, 'c');
    x.put(2, 'b');
    x.pass(4);
    check.due("11: in the room it ages", 26, x.life(0));
    check.due("11: in the cold it does not", 30, x.life(1));
    check.due("11: at the beamline it ages", 26, x.life(2));
    x.put(1, 'r');
    x.put(2, 'c');
    x.pass(20);
    check.due("11: on in the room", 6, x.life(0));
    check.due("11: out of the cold", 10, x.life(1));
    check.due("11: into the cold", 26, x.life(2));
  }
}
