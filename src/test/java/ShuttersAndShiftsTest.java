import java.util.NoSuchElementException;

/** Promises 12 to 17: what is on, why a shutter is closed, faults, shifts, time and disks. */
public final class ShuttersAndShiftsTest {
  private static final Class<?> RANGE = IllegalArgumentException.class;
  private static final Class<?> STATE = IllegalStateException.class;
  private static final Class<?> INDEX = IndexOutOfBoundsException.class;
  private static final Class<?> NONE = NoSuchElementException.class;
  private static final int[] WILD = {Integer.MIN_VALUE, -1, 2, Integer.MAX_VALUE};

  private static final Check check = new Check("ShuttersAndShiftsTest");

  public static void main(String[] args) {
    promise12On();
    promise12WrongInputs();
    promise13ReasonOrder();
    promise13Samples();
    promise13Disk();
    promise13Users();
    promise13WrongInputs();
    promise14Fail();
    promise14WrongInputs();
    promise15PassDone();
    promise15PassMissed();
    promise15PassLost();
    promise15PassFaultWithNoneOn();
    promise15PassBothBeamlines();
    promise15WrongInputs();
    promise15MostShifts();
    promise16Time();
    promise17Used();
    promise17WrongInputs();
    check.end();
  }

  /** One beamline whose user 1 is ready for proposal 0, which wants 9 shifts of 10 units. */
  private static BeamOffice ready(int run, int room) {
    BeamOffice x = new BeamOffice();
    x.addBeamline(run, room);
    x.propose(0, 1, 50, 9, 10);
    x.meet(0);
    x.train(1);
    x.setThere(1, true);
    x.bring(0, 50);
    x.put(0, 'b');
    return x;
  }

  private static void promise12On() {
    BeamOffice x = new BeamOffice();
    x.addBeamline(10, 100);
    x.addBeamline(10, 100);
    x.propose(0, 1, 10, 2, 0);
    x.propose(1, 1, 10, 2, 0);
    x.propose(0, 1, 20, 1, 0);
    check.dueThrow("12: before the panel", NONE, () -> x.on(0));
    x.meet(0);
    check.due("12: the first of the queue", 2, x.on(0));
    check.dueThrow("12: the other panel has not met", NONE, () -> x.on(1));
    x.meet(1);
    check.due("12: the other beamline's own", 1, x.on(1));
    x.pass(1);
    check.due("12: the next that has shifts left", 0, x.on(0));
    x.pass(1);
    check.due("12: still the same", 0, x.on(0));
    check.dueThrow("12: the other queue has none left", NONE, () -> x.on(1));
    x.pass(1);
    check.dueThrow("12: none is left", NONE, () -> x.on(0));
  }

  private static void promise12WrongInputs() {
    BeamOffice x = new BeamOffice();
    check.dueThrow("12: no beamline", INDEX, () -> x.on(0));
    x.addBeamline(10, 100);
    check.dueThrow("12: beamline 1", INDEX, () -> x.on(1));
    for (int wild : WILD) {
      check.dueThrow("12: beamline " + wild, INDEX, () -> x.on(wild));
    }
  }

  private static void promise13ReasonOrder() {
    BeamOffice x = new BeamOffice();
    x.addBeamline(9, 10);
    x.addBeamline(9, 10);
    x.propose(0, 1, 50, 5, 11);
    check.due("13: before the panel", 'q', x.reason(0));
    x.fail(0);
    check.due("13: none on comes before a fault", 'q', x.reason(0));
    x.meet(0);
    check.due("13: a fault comes before all others", 'f', x.reason(0));
    x.pass(1);
    check.due("13: not trained comes before the hall", 't', x.reason(0));
    x.train(1);
    check.due("13: not in the hall comes before the sample", 'p', x.reason(0));
    x.setThere(1, true);
    check.due("13: no sample comes before the disk", 's', x.reason(0));
    x.bring(0, 5);
    check.due("13: the sample is in the room", 's', x.reason(0));
    x.put(0, 'b');
    check.due("13: the disk has no room", 'd', x.reason(0));
    x.fail(0);
    check.due("13: a fault again", 'f', x.reason(0));
    check.due("13: the other beamline has its own", 'q', x.reason(1));
  }

  private static void promise13Samples() {
    BeamOffice x = ready(20, 999);
    check.due("13: open", '-', x.reason(0));
    x.put(0, 'c');
    check.due("13: in the cold", 's', x.reason(0));
    x.put(0, 'r');
    check.due("13: in the room", 's', x.reason(0));
    x.bring(0, 1);
    x.put(0, 'b');
    check.due("13: with the life 1", '-', x.reason(0));
    check.due("13: done with the life 1", 1, x.pass(1));
    check.due("13: spoilt", 's', x.reason(0));
    x.setThere(1, false);
    check.due("13: who left", 'p', x.reason(0));
    x.setThere(1, true);
    x.bring(0, 3);
    x.put(0, 'b');
    check.due("13: open again", '-', x.reason(0));
  }

  private static void promise13Disk() {
    BeamOffice x = ready(20, 20);
    check.due("13: room for two", '-', x.reason(0));
    x.pass(1);
    check.due("13: room for exactly one", '-', x.reason(0));
    x.pass(1);
    check.due("13: no room", 'd', x.reason(0));
    x.setRate(0, 9);
    check.due("13: a rate alone makes no room", 'd', x.reason(0));
    x.pass(1);
    check.due("13: one unit too few", 'd', x.reason(0));
    x.setRate(0, 1);
    x.pass(1);
    check.due("13: room again", '-', x.reason(0));
    BeamOffice y = new BeamOffice();
    y.addBeamline(9, 10);
    y.propose(0, 1, 50, 1, 10);
    y.propose(0, 1, 40, 5, 0);
    y.meet(0);
    y.train(1);
    y.setThere(1, true);
    for (int i = 0; i < 2; i++) {
      y.bring(i, 9);
      y.put(i, 'b');
    }
    check.due("13: the whole disk", 1, y.pass(1));
    check.due("13: no data needs no room", '-', y.reason(0));
  }

  private static void promise13Users() {
    for (int user = 0; user < 10; user++) {
      BeamOffice x = new BeamOffice();
      x.addBeamline(9, 10);
      x.propose(0, user, 50, 5, 0);
      x.meet(0);
      x.bring(0, 5);
      x.put(0, 'b');
      for (int other = 0; other < 10; other++) {
        if (other != user) {
          x.train(other);
          x.setThere(other, true);
        }
      }
      check.due("13: only others are trained, not " + user, 't', x.reason(0));
      x.train(user);
      check.due("13: only others are there, not " + user, 'p', x.reason(0));
      x.setThere(user, true);
      check.due("13: open for " + user, '-', x.reason(0));
    }
  }

  private static void promise13WrongInputs() {
    BeamOffice x = new BeamOffice();
    check.dueThrow("13: no beamline", INDEX, () -> x.reason(0));
    x.addBeamline(10, 100);
    check.due("13: without proposals", 'q', x.reason(0));
    check.dueThrow("13: beamline 1", INDEX, () -> x.reason(1));
    for (int wild : WILD) {
      check.dueThrow("13: beamline " + wild, INDEX, () -> x.reason(wild));
    }
  }

  private static void promise14Fail() {
    BeamOffice x = ready(20, 999);
    x.addBeamline(10, 100);
    check.due("14: a proposal is on", true, x.fail(0));
    check.dueThrow("14: twice", STATE, () -> x.fail(0));
    check.due("14: none is on at the other", false, x.fail(1));
    check.dueThrow("14: twice at the other", STATE, () -> x.fail(1));
    x.pass(1);
    check.due("14: for this shift alone", true, x.fail(0));
    check.due("14: also where none is on", false, x.fail(1));
    x.pass(1);
    check.due("14: no fault", '-', x.reason(0));
  }

  private static void promise14WrongInputs() {
    BeamOffice x = new BeamOffice();
    check.dueThrow("14: no beamline", INDEX, () -> x.fail(0));
    x.addBeamline(10, 100);
    check.dueThrow("14: beamline 1", INDEX, () -> x.fail(1));
    for (int wild : WILD) {
      check.dueThrow("14: beamline " + wild, INDEX, () -> x.fail(wild));
    }
    check.due("14: none on before the panel", false, x.fail(0));
  }

  private static void promise15PassDone() {
    BeamOffice x = ready(20, 999);
    check.due("15: three done", 3, x.pass(3));
    check.due("15: less left", 6, x.left(0));
    check.due("15: counted", 3, x.count(0, 'd'));
    check.due("15: none missed", 0, x.count(0, 'm'));
    check.due("15: the data is there", 30, x.used(0));
    check.due("15: the reserve is as it was", 11, x.reserve(0));
    check.due("15: only those left are done", 6, x.pass(20));
    check.due("15: none left", 0, x.left(0));
    check.due("15: all counted", 9, x.count(0, 'd'));
    check.due("15: the time goes on", 23, x.time());
  }

  private static void promise15PassMissed() {
    BeamOffice x = ready(20, 25);
    x.setThere(1, false);
    check.due("15: missed for the hall", 0, x.pass(1));
    check.due("15: one less left", 8, x.left(0));
    check.due("15: one missed", 1, x.count(0, 'm'));
    check.due("15: no data", 0, x.used(0));
    x.setThere(1, true);
    check.due("15: two done, one without room", 2, x.pass(3));
    check.due("15: three less left", 5, x.left(0));
    check.due("15: one more missed", 2, x.count(0, 'm'));
    x.put(0, 'r');
    check.due("15: missed for the sample", 0, x.pass(1));
    check.due("15: again one missed", 3, x.count(0, 'm'));
    check.due("15: none lost", 0, x.count(0, 'l'));
    check.due("15: the reserve is as it was", 11, x.reserve(0));
    BeamOffice y = new BeamOffice();
    y.addBeamline(9, 10);
    y.propose(0, 1, 50, 5, 0);
    y.meet(0);
    y.pass(1);
    check.due("15: missed for the training", 1, y.count(0, 'm'));
  }

  private static void promise15PassLost() {
    BeamOffice x = new BeamOffice();
    x.addBeamline(6, 100);
    x.propose(0, 1, 50, 2, 0);
    x.propose(0, 2, 40, 1, 0);
    x.propose(0, 3, 30, 2, 0);
    x.meet(0);
    x.fail(0);
    check.due("15: lost", 0, x.pass(1));
    check.due("15: made good from the reserve", 0, x.reserve(0));
    check.due("15: nobody has less", 2, x.left(0));
    check.due("15: the last neither", 2, x.left(2));
    check.due("15: lost while it was on", 1, x.count(0, 'l'));
    check.due("15: not owed", 0, x.count(2, 'o'));
    for (int i = 1; i <= 2; i++) {
      x.fail(0);
      x.pass(1);
      check.due("15: the last has less", 2 - i, x.left(2));
      check.due("15: and is owed", i, x.count(2, 'o'));
      check.due("15: that on keeps its shifts", 2, x.left(0));
      check.due("15: lost while that was on", 1 + i, x.count(0, 'l'));
      check.due("15: not while the last was", 0, x.count(2, 'l'));
    }
    x.fail(0);
    x.pass(1);
    check.due("15: then the one ahead of it", 1, x.count(1, 'o'));
    check.due("15: has none left", 0, x.left(1));
    x.fail(0);
    x.pass(1);
    check.due("15: at last the one that is on", 1, x.left(0));
    check.due("15: it is owed to itself", 1, x.count(0, 'o'));
    check.due("15: and lost while it was on", 5, x.count(0, 'l'));
    check.due("15: none missed", 0, x.count(0, 'm'));
    x.pass(1);
    check.due("15: the fault is gone", 1, x.count(0, 'm'));
  }

  private static void promise15PassFaultWithNoneOn() {
    BeamOffice x = new BeamOffice();
    x.addBeamline(6, 100);
    x.propose(0, 1, 50, 2, 0);
    x.fail(0);
    x.pass(1);
    x.meet(0);
    check.due("15: nothing lost before the panel", 4, x.reserve(0));
    check.due("15: nothing missed before it", 2, x.left(0));
    x.pass(2);
    x.fail(0);
    x.pass(1);
    check.due("15: nothing lost behind the queue", 4, x.reserve(0));
    check.due("15: none counted", 0, x.count(0, 'l'));
  }

  private static void promise15PassBothBeamlines() {
    BeamOffice x = ready(20, 999);
    x.addBeamline(20, 999);
    x.propose(1, 1, 50, 2, 7);
    x.meet(1);
    x.bring(1, 50);
    x.put(1, 'b');
    check.due("15: done at both", 4, x.pass(2));
    check.due("15: data of the first", 20, x.used(0));
    check.due("15: data of the second", 14, x.used(1));
    check.due("15: then at one", 1, x.pass(1));
    x.fail(1);
    check.due("15: a fault at the other", 1, x.pass(1));
    check.due("15: no shifts at a new office", 0, new BeamOffice().pass(20));
  }

  private static void promise15WrongInputs() {
    BeamOffice x = new BeamOffice();
    int[] wrong = {Integer.MIN_VALUE, -1, 0, 21, Integer.MAX_VALUE};
    for (int shifts : wrong) {
      check.dueThrow("15: " + shifts + " shifts", RANGE, () -> x.pass(shifts));
    }
    check.due("15: no time went by", 0, x.time());
    check.due("15: the least", 0, x.pass(1));
    check.due("15: the most", 0, x.pass(20));
    check.due("15: both went by", 21, x.time());
  }

  private static void promise15MostShifts() {
    BeamOffice x = new BeamOffice();
    x.addBeamline(9, 100);
    x.propose(0, 1, 50, 5, 0);
    for (int i = 0; i < 9; i++) {
      x.pass(20);
    }
    x.pass(19);
    x.meet(0);
    x.bring(0, 9);
    x.fail(0);
    check.dueThrow("15: 201 shifts", STATE, () -> x.pass(2));
    check.dueThrow("15: the range comes first", RANGE, () -> x.pass(21));
    check.due("15: none of them passed", 199, x.time());
    check.due("15: no life went by", 9, x.life(0));
    check.due("15: no shift was lost", 4, x.reserve(0));
    check.due("15: the fault is still there", 'f', x.reason(0));
    check.due("15: 200 shifts", 0, x.pass(1));
    check.due("15: the last one was lost", 3, x.reserve(0));
    check.due("15: found anew, too", 5, x.leftAnew(0));
    check.dueThrow("15: no more", STATE, () -> x.pass(1));
    check.due("15: at the time 200", 200, x.time());
  }

  private static void promise16Time() {
    BeamOffice x = new BeamOffice();
    check.due("16: at first", 0, x.time());
    x.pass(3);
    check.due("16: three later", 3, x.time());
    x.pass(20);
    check.due("16: twenty later", 23, x.time());
    check.dueThrow("16: a wrong call", RANGE, () -> x.pass(0));
    check.due("16: the same", 23, x.time());
  }

  private static void promise17Used() {
    BeamOffice x = ready(20, 999);
    check.due("17: none at first", 0, x.used(0));
    x.pass(2);
    check.due("17: two shifts", 20, x.used(0));
    x.setRate(0, 4);
    check.due("17: a rate alone moves nothing", 20, x.used(0));
    x.pass(1);
    check.due("17: ten more, four moved away", 26, x.used(0));
    x.put(0, 'r');
    x.pass(1);
    check.due("17: moved in a missed shift", 22, x.used(0));
    x.fail(0);
    x.pass(1);
    check.due("17: moved in a lost shift", 18, x.used(0));
    x.setRate(0, 99);
    x.pass(1);
    check.due("17: all that is there", 0, x.used(0));
    x.setRate(0, 10);
    x.put(0, 'b');
    x.pass(1);
    check.due("17: all that came", 0, x.used(0));
    x.setRate(0, 3);
    x.pass(3);
    check.due("17: none is on any more", 'q', x.reason(0));
    check.due("17: some stayed", 21, x.used(0));
    x.pass(1);
    check.due("17: moved where none is on", 18, x.used(0));
  }

  private static void promise17WrongInputs() {
    BeamOffice x = new BeamOffice();
    check.dueThrow("17: no beamline", INDEX, () -> x.used(0));
    x.addBeamline(10, 100);
    check.dueThrow("17: beamline 1", INDEX, () -> x.used(1));
    for (int wild : WILD) {
      check.dueThrow("17: beamline " + wild, INDEX, () -> x.used(wild));
    }
  }
}
