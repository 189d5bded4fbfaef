/** Promises 1 to 6: the new object, beamlines, rates, proposals, the panel, the reserve. */
public final class BeamlinesAndProposalsTest {
  private static final Class<?> RANGE = IllegalArgumentException.class;
  private static final Class<?> STATE = IllegalStateException.class;
  private static final Class<?> INDEX = IndexOutOfBoundsException.class;
  private static final int[] WILD = {Integer.MIN_VALUE, -1, Integer.MAX_VALUE};

  private static final Check check = new Check("BeamlinesAndProposalsTest");

  public static void main(String[] args) {
    promise1NewObject();
    promise2AddBeamline();
    promise3SetRate();
    promise4Propose();
    promise4WrongInputs();
    promise4States();
    promise5MeetRanks();
    promise5MeetAllotsAllOrNone();
    promise5MeetWrongInputs();
    promise6Reserve();
    check.end();
  }

  private static void promise1NewObject() {
    BeamOffice x = new BeamOffice();
    check.due("1: the time is 0", 0, x.time());
    check.dueThrow("1: no beamline", INDEX, () -> x.used(0));
    check.dueThrow("1: no proposal", INDEX, () -> x.left(0));
    check.dueThrow("1: nothing is owed", java.util.NoSuchElementException.class, x::mostOwed);
    check.dueThrow("1: no shifts", ArithmeticException.class, x::doneShare);
    check.dueThrow("1: no queues", ArithmeticException.class, x::meanScore);
    check.due("1: nobody is in the hall", false, x.setThere(9, true));
    check.due("1: nobody is trained", 1, x.train(0));
    BeamOffice other = new BeamOffice();
    check.due("1: each object is its own", 1, other.train(0));
    check.due("1: the first beamline", 0, other.addBeamline(3, 10));
    check.due("1: the first proposal", 0, other.propose(0, 0, 0, 1, 0));
  }

  private static void promise2AddBeamline() {
    BeamOffice x = new BeamOffice();
    for (int wild : WILD) {
      check.dueThrow("2: shifts " + wild, RANGE, () -> x.addBeamline(wild, 10));
      check.dueThrow("2: room " + wild, RANGE, () -> x.addBeamline(3, wild));
    }
    check.dueThrow("2: shifts 2", RANGE, () -> x.addBeamline(2, 10));
    check.dueThrow("2: shifts 41", RANGE, () -> x.addBeamline(41, 10));
    check.dueThrow("2: room 9", RANGE, () -> x.addBeamline(3, 9));
    check.dueThrow("2: room 1000", RANGE, () -> x.addBeamline(3, 1000));
    check.due("2: least numbers", 0, x.addBeamline(3, 10));
    check.due("2: most numbers", 1, x.addBeamline(40, 999));
    check.dueThrow("2: a third", STATE, () -> x.addBeamline(3, 10));
    check.dueThrow("2: the range comes first", RANGE, () -> x.addBeamline(2, 10));
    check.dueThrow("2: the room comes first", RANGE, () -> x.addBeamline(3, 1000));
    check.dueThrow("2: no third one was added", INDEX, () -> x.used(2));
    check.due("2: no data at first", 0, x.used(1));
    check.due("2: no rate at first", 0, x.setRate(1, 5));
    x.meet(0);
    x.meet(1);
    check.due("2: the run of the first", 3, x.reserve(0));
    check.due("2: the run of the second", 40, x.reserve(1));
  }

  private static void promise3SetRate() {
    BeamOffice x = new BeamOffice();
    check.dueThrow("3: no beamline", INDEX, () -> x.setRate(0, 5));
    x.addBeamline(3, 10);
    check.due("3: the rate at first", 0, x.setRate(0, 99));
    check.due("3: the most", 99, x.setRate(0, 0));
    check.due("3: the least", 0, x.setRate(0, 7));
    check.dueThrow("3: rate 100", RANGE, () -> x.setRate(0, 100));
    for (int wild : WILD) {
      check.dueThrow("3: rate " + wild, RANGE, () -> x.setRate(0, wild));
      check.dueThrow("3: beamline " + wild, INDEX, () -> x.setRate(wild, 5));
    }
    check.dueThrow("3: beamline 1", INDEX, () -> x.setRate(1, 5));
    check.dueThrow("3: the beamline comes first", INDEX, () -> x.setRate(1, 100));
    check.due("3: a call that throws changes nothing", 7, x.setRate(0, 8));
    x.addBeamline(3, 10);
    check.due("3: each beamline has its own", 0, x.setRate(1, 1));
    check.due("3: the first keeps its own", 8, x.setRate(0, 8));
  }

  private static void promise4Propose() {
    BeamOffice x = new BeamOffice();
    x.addBeamline(40, 999);
    x.addBeamline(40, 999);
    check.due("4: least numbers", 0, x.propose(0, 0, 0, 1, 0));
    check.due("4: most numbers", 1, x.propose(1, 9, 100, 9, 99));
    check.due("4: the numbers go on over the beamlines", 2, x.propose(0, 9, 3, 4, 5));
    check.due("4: the same again", 3, x.propose(0, 9, 3, 4, 5));
    check.due("4: no sample at first", "throws java.util.NoSuchElementException",
        Check.outcome(() -> x.life(2)));
    check.due("4: none left before the panel", 0, x.left(2));
    check.due("4: none done", 0, x.count(2, 'd'));
  }

  private static void promise4WrongInputs() {
    BeamOffice x = new BeamOffice();
    check.dueThrow("4: no beamline", INDEX, () -> x.propose(0, 0, 0, 1, 0));
    x.addBeamline(40, 999);
    for (int wild : WILD) {
      check.dueThrow("4: beamline " + wild, INDEX, () -> x.propose(wild, 0, 0, 1, 0));
      check.dueThrow("4: user " + wild, RANGE, () -> x.propose(0, wild, 0, 1, 0));
      check.dueThrow("4: score " + wild, RANGE, () -> x.propose(0, 0, wild, 1, 0));
      check.dueThrow("4: wanted " + wild, RANGE, () -> x.propose(0, 0, 0, wild, 0));
      check.dueThrow("4: data " + wild, RANGE, () -> x.propose(0, 0, 0, 1, wild));
    }
    check.dueThrow("4: beamline 1", INDEX, () -> x.propose(1, 0, 0, 1, 0));
    check.dueThrow("4: user 10", RANGE, () -> x.propose(0, 10, 0, 1, 0));
    check.dueThrow("4: score 101", RANGE, () -> x.propose(0, 0, 101, 1, 0));
    check.dueThrow("4: wanted 0", RANGE, () -> x.propose(0, 0, 0, 0, 0));
    check.dueThrow("4: wanted 10", RANGE, () -> x.propose(0, 0, 0, 10, 0));
    check.dueThrow("4: data 100", RANGE, () -> x.propose(0, 0, 0, 1, 100));
    check.dueThrow("4: the beamline comes first", INDEX, () -> x.propose(1, 10, 0, 1, 0));
    check.due("4: none of them was made", 0, x.propose(0, 0, 0, 1, 0));
  }

  private static void promise4States() {
    BeamOffice x = new BeamOffice();
    x.addBeamline(40, 999);
    x.addBeamline(40, 999);
    x.meet(0);
    check.dueThrow("4: the panel has met", STATE, () -> x.propose(0, 0, 0, 1, 0));
    check.dueThrow("4: the beamline comes before", INDEX, () -> x.propose(2, 0, 0, 1, 0));
    check.dueThrow("4: the user comes before", RANGE, () -> x.propose(0, 10, 0, 1, 0));
    check.dueThrow("4: the score comes before", RANGE, () -> x.propose(0, 0, 101, 1, 0));
    check.dueThrow("4: the wanted shifts come before", RANGE, () -> x.propose(0, 0, 0, 0, 0));
    check.dueThrow("4: the data comes before", RANGE, () -> x.propose(0, 0, 0, 1, 100));
    check.due("4: the other panel has not", 0, x.propose(1, 0, 0, 1, 0));
    for (int i = 1; i < 8; i++) {
      check.due("4: up to 8", i, x.propose(1, 0, 0, 1, 0));
    }
    check.dueThrow("4: a ninth", STATE, () -> x.propose(1, 0, 0, 1, 0));
    check.dueThrow("4: the user before the ninth", RANGE, () -> x.propose(1, -1, 0, 1, 0));
    check.dueThrow("4: the score before the ninth", RANGE, () -> x.propose(1, 0, -1, 1, 0));
    check.dueThrow("4: the wanted shifts before the ninth", RANGE, () -> x.propose(1, 0, 0, 10, 0));
    check.dueThrow("4: the data before the ninth", RANGE, () -> x.propose(1, 0, 0, 1, 100));
    check.dueThrow("4: the beamline before all", INDEX, () -> x.propose(2, 0, 0, 1, 100));
    check.dueThrow("4: no ninth was made", INDEX, () -> x.left(8));
    check.due("4: 8 in the queue", 8, x.meet(1));
  }

  private static void promise5MeetRanks() {
    BeamOffice x = new BeamOffice();
    x.addBeamline(40, 999);
    x.addBeamline(40, 999);
    x.propose(0, 0, 50, 1, 0);
    x.propose(0, 0, 0, 2, 0);
    x.propose(0, 0, 100, 3, 0);
    x.propose(1, 0, 70, 9, 0);
    x.propose(0, 0, 50, 4, 0);
    x.propose(0, 0, 51, 5, 0);
    check.due("5: the queue holds those of the beamline", 5, x.meet(0));
    check.due("5: the highest score is first", 0, x.nextAt(2));
    check.due("5: then the next one", 3, x.nextAt(5));
    check.due("5: of one score the lower number", 8, x.nextAt(0));
    check.due("5: then the higher one", 9, x.nextAt(4));
    check.due("5: the score 0 is last", 13, x.nextAt(1));
    check.due("5: the other beamline's is in no queue yet", 0, x.left(3));
    check.due("5: it is, behind its panel", 1, x.meet(1));
    check.due("5: with all that it wants", 9, x.left(3));
  }

  private static void promise5MeetAllotsAllOrNone() {
    BeamOffice x = new BeamOffice();
    x.addBeamline(10, 999);
    x.propose(0, 0, 90, 6, 0);
    x.propose(0, 0, 80, 5, 0);
    x.propose(0, 0, 70, 4, 0);
    x.propose(0, 0, 60, 1, 0);
    check.due("5: two have room in the run", 2, x.meet(0));
    check.due("5: the first one", 6, x.left(0));
    check.due("5: too many are wanted", 0, x.left(1));
    check.due("5: exactly as many as are left", 4, x.left(2));
    check.due("5: nothing is left", 0, x.left(3));
    check.due("5: no reserve", 0, x.reserve(0));
    check.due("5: only those allotted are scored", 80.0, x.meanScore());
    check.due("5: the first is on", 0, x.on(0));
  }

  private static void promise5MeetWrongInputs() {
    BeamOffice x = new BeamOffice();
    check.dueThrow("5: no beamline", INDEX, () -> x.meet(0));
    x.addBeamline(10, 999);
    for (int wild : WILD) {
      check.dueThrow("5: beamline " + wild, INDEX, () -> x.meet(wild));
    }
    check.dueThrow("5: beamline 1", INDEX, () -> x.meet(1));
    check.due("5: without proposals", 0, x.meet(0));
    check.dueThrow("5: twice", STATE, () -> x.meet(0));
    check.due("5: the whole run is the reserve", 10, x.reserve(0));
  }

  private static void promise6Reserve() {
    BeamOffice x = new BeamOffice();
    check.dueThrow("6: no beamline", INDEX, () -> x.reserve(0));
    x.addBeamline(10, 999);
    x.addBeamline(20, 999);
    x.propose(0, 0, 90, 6, 0);
    x.propose(0, 0, 80, 5, 0);
    check.dueThrow("6: the panel has not met", STATE, () -> x.reserve(0));
    for (int wild : WILD) {
      check.dueThrow("6: beamline " + wild, INDEX, () -> x.reserve(wild));
    }
    check.dueThrow("6: beamline 2", INDEX, () -> x.reserve(2));
    x.meet(0);
    check.due("6: what is not allotted", 4, x.reserve(0));
    check.dueThrow("6: the other panel has not met", STATE, () -> x.reserve(1));
    x.pass(1);
    check.due("6: a missed shift takes nothing of it", 4, x.reserve(0));
    x.fail(0);
    x.pass(1);
    check.due("6: a lost one does", 3, x.reserve(0));
  }
}
