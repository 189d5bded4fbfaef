import java.util.NoSuchElementException;

/** What the tests of the document's boundaries share. */
abstract class Boundaries {
  static final String NO_BEAMLINE =
      "Throws `IndexOutOfBoundsException` if there is no such beamline";
  static final String NO_PROPOSAL =
      "Throws `IndexOutOfBoundsException` if there is no such proposal";
  static final String NO_USER = "Throws `IndexOutOfBoundsException` if there is no such user";

  static final Class<?> RANGE = IllegalArgumentException.class;
  static final Class<?> STATE = IllegalStateException.class;
  static final Class<?> INDEX = IndexOutOfBoundsException.class;
  static final Class<?> NONE = NoSuchElementException.class;
  static final Class<?> FULL = UnsupportedOperationException.class;
  static final Class<?> NUMBERS = ArithmeticException.class;

  /** A call of an object, that is refused. */
  interface Act {
    Object on(BeamOffice x);
  }

  /** A call of an object with a number that is refused. */
  interface NumberAct {
    Object on(BeamOffice x, int number);
  }

  final Check check;
  private final Document document;

  Boundaries(Check check, Document document) {
    this.check = check;
    this.document = document;
  }

  /** What is checked from here on is what this sentence of the document says. */
  void says(String section, String sentence) {
    document.says(section, sentence);
  }

  void says(int promise, String sentence) {
    document.says("Promise " + promise, sentence);
  }

  /** The same of a promise's first line, which tells in short what its call does. */
  void saysInShort(int promise, String sentence) {
    document.saysInShort("Promise " + promise, sentence);
  }

  void due(String what, Object want, Object got) {
    check.due(what, want, got);
  }

  /** The call throws what is due, and whatever is asked behind it is answered as without it. */
  void refused(String what, Class<?> want, Scene scene, Act act) {
    String where = what + " (" + scene + ")";
    for (int way = 0; way < Probe.WAYS; way++) {
      BeamOffice touched = scene.office();
      check.dueThrow(where, want, () -> act.on(touched));
      check.due(where + " changes nothing", "", Probe.difference(way, scene, touched));
    }
  }

  /** Refused in each scene. */
  void refusedAlways(String what, Class<?> want, Act act) {
    for (Scene scene : Scene.values()) {
      refused(what, want, scene, act);
    }
  }

  /**
   * Refused for the numbers next to the range from low to high, for those at the ends of int, and
   * for those that would be in the range if they were cut to 16 or to 8 bits.
   */
  void refusedAround(Class<?> want, Scene scene, int low, int high, NumberAct act) {
    int[] numbers = {low - 1, high + 1, Integer.MIN_VALUE, Integer.MIN_VALUE + 1,
      Integer.MAX_VALUE - 1, Integer.MAX_VALUE, low + 65536, high - 65536,
      Math.max(high + 1, low + 256), Math.min(low - 1, high - 256)};
    for (int number : numbers) {
      refused(number + "", want, scene, x -> act.on(x, number));
    }
  }

  /** Refused for each number that is no beamline's. */
  void refusedBeamlines(NumberAct act) {
    refusedAround(INDEX, Scene.NEW, 0, -1, act);
    refusedAround(INDEX, Scene.WRITTEN, 0, 0, act);
    refusedAround(INDEX, Scene.BUSY, 0, 1, act);
    refusedAround(INDEX, Scene.FULL, 0, 1, act);
  }

  /** Refused for each number that is no proposal's. */
  void refusedProposals(NumberAct act) {
    refusedAround(INDEX, Scene.NEW, 0, -1, act);
    refusedAround(INDEX, Scene.WRITTEN, 0, 1, act);
    refusedAround(INDEX, Scene.BUSY, 0, 4, act);
    refusedAround(INDEX, Scene.FULL, 0, 7, act);
  }

  /** Refused for each number that is no user's. */
  void refusedUsers(NumberAct act) {
    for (Scene scene : Scene.values()) {
      refusedAround(INDEX, scene, 0, 9, act);
    }
  }

  static BeamOffice office(int shifts, int room) {
    BeamOffice x = new BeamOffice();
    x.addBeamline(shifts, room);
    return x;
  }

  /** One beamline, whose users 0 to 9 are trained and there. */
  static BeamOffice staffed(int shifts, int room) {
    BeamOffice x = office(shifts, room);
    for (int user = 0; user < 10; user++) {
      x.train(user);
      x.setThere(user, true);
    }
    return x;
  }

  /** Brings a fresh sample to the beamline. */
  static void sample(BeamOffice x, int work) {
    x.bring(work, 50);
    x.put(work, 'b');
  }

  /** One beamline with one proposal of user 1, whose shutter is open. */
  static BeamOffice open(int shifts, int room, int wanted, int data) {
    BeamOffice x = staffed(shifts, room);
    x.propose(0, 1, 50, wanted, data);
    x.meet(0);
    sample(x, 0);
    return x;
  }

  static void lose(BeamOffice x, int beamline, int shifts) {
    for (int i = 0; i < shifts; i++) {
      x.fail(beamline);
      x.pass(1);
    }
  }

  static void passAll(BeamOffice x, int shifts) {
    for (int left = shifts; left > 0; left -= 20) {
      x.pass(Math.min(left, 20));
    }
  }
}
