/**
 * The sentences of the section "Terms" from "Shutters" on, each on both sides of the boundary that
 * it names.
 */
final class ShiftTermBoundaries extends Boundaries {
  private static final String TERMS = "Terms";

  ShiftTermBoundaries(Check check, Document document) {
    super(check, document);
  }

  void run() {
    onIsTheFirst();
    firstReason();
    open();
    eachBeamline();
    done();
    lost();
    missed();
    movedAway();
    lives();
    mostShifts();
    throwsChangeNothing();
    firstException();
  }

  private void onIsTheFirst() {
    says(TERMS, "The proposal that is on at a beamline is the first one of its queue that has "
        + "shifts left.");
    BeamOffice x = office(6, 99);
    x.propose(0, 0, 30, 2, 0);
    x.propose(0, 0, 50, 2, 0);
    x.propose(0, 0, 40, 2, 0);
    check.dueThrow("none before the panel", NONE, () -> x.on(0));
    x.meet(0);
    due("the first", 1, x.on(0));
    x.pass(1);
    due("with its last shift", 1, x.on(0));
    x.pass(1);
    due("the second", 2, x.on(0));
    lose(x, 0, 2);
    due("behind it none is left", 0, x.left(0));
    due("still the second", 2, x.on(0));
    x.pass(1);
    due("with its last shift, too", 2, x.on(0));
    x.pass(1);
    check.dueThrow("none has shifts left", NONE, () -> x.on(0));
    BeamOffice y = office(3, 99);
    y.propose(0, 0, 50, 1, 0);
    y.propose(0, 0, 40, 1, 0);
    y.propose(0, 0, 30, 1, 0);
    y.meet(0);
    lose(y, 0, 2);
    due("those behind have none left", 0, y.on(0));
    lose(y, 0, 1);
    check.dueThrow("not even the first", NONE, () -> y.on(0));
  }

  private void firstReason() {
    says(TERMS, "The shutter is closed for the first one of these reasons that applies: 'q' no "
        + "proposal is on; 'f' there is a fault; 't' its user is not trained; 'p' its user is not "
        + "in the hall; 's' its sample is not at the beamline, or is spoilt, or there is none; 'd' "
        + "the disk has no room for the data of a shift.");
    for (int state = 0; state < 2 * 2 * 2 * 2 * 5 * 2; state++) {
      dueReason(state);
    }
    BeamOffice x = open(20, 10, 5, 5);
    due("room for two", '-', x.reason(0));
    x.pass(1);
    due("room for exactly one", '-', x.reason(0));
    x.pass(1);
    due("room for none", 'd', x.reason(0));
    BeamOffice y = staffed(20, 10);
    y.propose(0, 0, 50, 1, 10);
    y.propose(0, 0, 40, 1, 0);
    y.propose(0, 0, 30, 1, 1);
    y.meet(0);
    for (int i = 0; i < 3; i++) {
      sample(y, i);
    }
    due("room for all of it", '-', y.reason(0));
    y.pass(1);
    due("a full disk has room for no data", '-', y.reason(0));
    y.pass(1);
    due("but not for one unit", 'd', y.reason(0));
  }

  /** One of all the states that the reasons look at, told by its digits. */
  private void dueReason(int state) {
    boolean isOn = state % 2 == 0;
    boolean isFault = state / 2 % 2 == 0;
    boolean isTrained = state / 4 % 2 == 0;
    boolean isThere = state / 8 % 2 == 0;
    int sample = state / 16 % 5;
    boolean isRoom = state / 80 == 0;
    BeamOffice x = office(20, 10);
    x.propose(0, 4, 50, isOn ? 5 : 1, isRoom ? 10 : 11);
    x.meet(0);
    if (sample > 0) {
      x.bring(0, sample == 1 ? 1 : 9);
      x.put(0, "bbrcb".charAt(sample));
    }
    x.pass(1);
    if (isFault) {
      x.fail(0);
    }
    if (isTrained) {
      x.train(4);
    }
    x.setThere(4, isThere);
    boolean isSample = sample == 4;
    char want = !isOn ? 'q' : isFault ? 'f' : !isTrained ? 't' : !isThere ? 'p'
        : !isSample ? 's' : !isRoom ? 'd' : '-';
    due("on " + isOn + ", fault " + isFault + ", trained " + isTrained + ", there " + isThere
        + ", sample " + sample + ", room " + isRoom, want, x.reason(0));
  }

  private void open() {
    says(TERMS, "If none applies, it is open.");
    BeamOffice x = staffed(3, 10);
    x.propose(0, 9, 0, 3, 10);
    x.meet(0);
    x.bring(0, 1);
    x.put(0, 'b');
    due("with nothing to spare", '-', x.reason(0));
    due("it is done", 1, x.pass(1));
    BeamOffice y = open(40, 999, 9, 0);
    due("with much to spare", '-', y.reason(0));
    y.fail(0);
    due("one reason is enough", 'f', y.reason(0));
    y.pass(1);
    due("and gone", '-', y.reason(0));
  }

  private void eachBeamline() {
    says(TERMS, "When a shift passes, this happens at each beamline, in ascending order.");
    BeamOffice x = staffed(5, 99);
    x.pass(1);
    x.addBeamline(5, 99);
    x.propose(1, 1, 50, 3, 7);
    x.propose(0, 1, 50, 2, 5);
    x.meet(0);
    x.meet(1);
    sample(x, 0);
    sample(x, 1);
    due("two at once", 2, x.pass(1));
    due("the first", 1, x.left(1));
    due("the second", 2, x.left(0));
    x.fail(0);
    due("one of them is lost", 1, x.pass(1));
    due("from its own reserve", 2, x.reserve(0));
    due("not from the other's", 2, x.reserve(1));
    due("the fault is gone, one shift each", 2, x.pass(1));
    due("none is on any more", 0, x.pass(1));
    due("5 units twice", 10, x.used(0));
    due("7 units three times", 21, x.used(1));
    due("one time for both", 5, x.time());
  }

  private void done() {
    says(TERMS, "If the shutter is open, the shift is done: the proposal that is on has one shift "
        + "less left, and its data is on the disk.");
    BeamOffice x = staffed(5, 99);
    x.propose(0, 1, 50, 1, 99);
    x.propose(0, 2, 40, 1, 0);
    x.meet(0);
    sample(x, 0);
    sample(x, 1);
    due("the only shift", 1, x.pass(1));
    due("none left", 0, x.left(0));
    due("the other has its own", 1, x.left(1));
    due("as much data as there is room", 99, x.used(0));
    due("one done", 1, x.count(0, 'd'));
    due("none of the other", 0, x.count(1, 'd'));
    due("the other's", 1, x.pass(1));
    due("without data", 99, x.used(0));
    due("none is on", 0, x.pass(1));
    due("nothing is done twice", 1, x.count(0, 'd'));
    due("the reserve stays", 3, x.reserve(0));
    BeamOffice y = open(5, 99, 2, 50);
    due("two wanted, but room for one", 1, y.pass(2));
    due("one done", 1, y.count(0, 'd'));
    due("the data of one", 50, y.used(0));
  }

  private void lost() {
    says(TERMS, "If it is closed for a fault, the shift is lost: if the reserve is not 0, it "
        + "becomes less by 1; otherwise, the last proposal of the queue that has shifts left has "
        + "one less, and it is owed one.");
    BeamOffice x = office(7, 99);
    x.propose(0, 1, 50, 2, 0);
    x.propose(0, 2, 40, 1, 0);
    x.propose(0, 3, 30, 2, 0);
    x.meet(0);
    int[][] want = {{1, 2, 1, 2, 0, 0, 0}, {0, 2, 1, 2, 0, 0, 0}, {0, 2, 1, 1, 0, 0, 1},
      {0, 2, 1, 0, 0, 0, 2}, {0, 2, 0, 0, 0, 1, 2}, {0, 1, 0, 0, 1, 1, 2},
      {0, 0, 0, 0, 2, 1, 2}, {0, 0, 0, 0, 2, 1, 2}};
    for (int i = 0; i < want.length; i++) {
      x.fail(0);
      due("nothing is done", 0, x.pass(1));
      due("the reserve behind " + i, want[i][0], x.reserve(0));
      for (int work = 0; work < 3; work++) {
        due("left of " + work + " behind " + i, want[i][1 + work], x.left(work));
        due("owed to " + work + " behind " + i, want[i][4 + work], x.count(work, 'o'));
      }
      due("lost behind " + i, Math.min(i + 1, 7), x.count(0, 'l'));
    }
    due("none is missed", 0, x.count(0, 'm'));
    due("none is lost of the others", 0, x.count(1, 'l') + x.count(2, 'l'));
    BeamOffice y = office(7, 99);
    y.propose(0, 1, 50, 4, 0);
    y.meet(0);
    lose(y, 0, 3);
    due("the last of the reserve", 0, y.reserve(0));
    due("nothing is owed yet", 0, y.count(0, 'o'));
    due("all are left", 4, y.left(0));
    lose(y, 0, 1);
    due("the reserve stays 0", 0, y.reserve(0));
    due("then it is owed", 1, y.count(0, 'o'));
    due("one less is left", 3, y.left(0));
  }

  private void missed() {
    says(TERMS, "If it is closed for another reason than 'q' and 'f', the shift is missed: the "
        + "proposal that is on has one less left.");
    BeamOffice x = office(20, 10);
    x.propose(0, 1, 50, 6, 11);
    x.propose(0, 1, 40, 6, 0);
    x.meet(0);
    String reasons = "tpssd";
    for (int i = 0; i < reasons.length(); i++) {
      due("the reason", reasons.charAt(i), x.reason(0));
      due("nothing is done", 0, x.pass(1));
      due("one less left", 5 - i, x.left(0));
      due("one more missed", 1 + i, x.count(0, 'm'));
      toNextReason(x, i);
    }
    due("with a fault it is not missed", 'f', x.reason(0));
    x.pass(1);
    due("the shift is left", 1, x.left(0));
    due("none more missed", 5, x.count(0, 'm'));
    x.pass(1);
    due("the last shift", 0, x.left(0));
    due("the last one missed", 6, x.count(0, 'm'));
    due("the other is as it was", 6, x.left(1));
    x.pass(6);
    due("and missed, each one", 6, x.count(1, 'm'));
    x.pass(3);
    due("without one that is on, nothing is missed", 6, x.count(1, 'm'));
    due("nor from the reserve", 7, x.reserve(0));
  }

  private static void toNextReason(BeamOffice x, int passed) {
    if (passed == 0) {
      x.train(1);
    } else if (passed == 1) {
      x.setThere(1, true);
    } else if (passed == 2) {
      x.bring(0, 50);
    } else if (passed == 3) {
      x.put(0, 'b');
    } else {
      x.fail(0);
    }
  }

  private void movedAway() {
    says(TERMS, "Then as much data is moved away as the rate tells, or all that is there, and "
        + "there is no fault any more.");
    for (int rate = 0; rate <= 99; rate++) {
      BeamOffice x = open(20, 200, 1, 50);
      x.setRate(0, rate);
      x.pass(1);
      due("50 units at the rate " + rate, Math.max(0, 50 - rate), x.used(0));
      x.pass(1);
      due("twice at the rate " + rate, Math.max(0, 50 - 2 * rate), x.used(0));
    }
    BeamOffice x = open(20, 20, 9, 20);
    x.setRate(0, 19);
    due("a full disk at first", 1, x.pass(1));
    due("all but one is moved", 1, x.used(0));
    due("behind the shift, not ahead of it", 0, x.pass(1));
    due("the last one is moved", 0, x.used(0));
    due("then there is room", 1, x.pass(1));
    BeamOffice y = open(20, 99, 9, 0);
    y.addBeamline(20, 99);
    y.fail(0);
    y.fail(1);
    check.dueThrow("a fault before", STATE, () -> y.fail(0));
    y.pass(1);
    due("none behind", '-', y.reason(0));
    due("none at the first", true, y.fail(0));
    due("none at the second", false, y.fail(1));
  }

  private void lives() {
    says(TERMS, "Behind all beamlines, the life of each sample that is not in the cold and not "
        + "spoilt becomes less by 1, and the time increases by 1.");
    BeamOffice x = staffed(20, 99);
    x.addBeamline(20, 99);
    for (int i = 0; i < 4; i++) {
      x.propose(i / 2, i, 50, 1, 0);
      x.bring(i, 1);
    }
    x.meet(0);
    x.meet(1);
    x.put(0, 'b');
    x.put(2, 'b');
    x.put(3, 'c');
    due("done at both with the life 1", 2, x.pass(1));
    due("at the first beamline", 0, x.life(0));
    due("in the room", 0, x.life(1));
    due("at the second beamline", 0, x.life(2));
    due("in the cold", 1, x.life(3));
    due("the time 1", 1, x.time());
    x.pass(20);
    due("spoilt ones stay at 0", 0, x.life(0) + x.life(1) + x.life(2));
    due("in the cold however long", 1, x.life(3));
    due("the time 21", 21, x.time());
    x.put(3, 'r');
    due("not by being put", 1, x.life(3));
    x.pass(1);
    due("out of the cold", 0, x.life(3));
    BeamOffice y = office(3, 10);
    y.propose(0, 0, 0, 1, 0);
    y.bring(0, 50);
    y.pass(20);
    y.pass(20);
    y.pass(9);
    due("one of 50 is left", 1, y.life(0));
    y.pass(1);
    due("none of 50 is left", 0, y.life(0));
  }

  private void mostShifts() {
    says(TERMS, "At most 200 shifts pass.");
    BeamOffice x = new BeamOffice();
    passAll(x, 199);
    check.dueThrow("two more", STATE, () -> x.pass(2));
    due("none of them passed", 199, x.time());
    due("one more", 0, x.pass(1));
    due("200", 200, x.time());
    check.dueThrow("no more", STATE, () -> x.pass(1));
    check.dueThrow("not many more", STATE, () -> x.pass(20));
    due("still 200", 200, x.time());
    BeamOffice y = open(40, 999, 9, 9);
    passAll(y, 180);
    due("twenty up to 200", 0, y.pass(20));
    due("as it is kept", 0, y.left(0));
    due("all of it anew", 0, y.leftAnew(0));
    BeamOffice z = staffed(40, 999);
    z.propose(0, 1, 50, 9, 9);
    passAll(z, 181);
    z.meet(0);
    sample(z, 0);
    check.dueThrow("twenty beyond 200", STATE, () -> z.pass(20));
    due("the last 19 run", 9, z.pass(19));
    due("anew up to the end", 0, z.leftAnew(0));
    refused("11 behind 190", STATE, Scene.FULL, v -> v.pass(11));
    refused("20 behind 190", STATE, Scene.FULL, v -> v.pass(20));
  }

  private void throwsChangeNothing() {
    says(TERMS, "A method that throws an exception changes nothing.");
    refusedAlways("a beamline without a run", RANGE, x -> x.addBeamline(0, 100));
    refusedAlways("a rate of no beamline", INDEX, x -> x.setRate(2, 9));
    refusedAlways("a proposal for no beamline", INDEX, x -> x.propose(2, 1, 1, 1, 1));
    refusedAlways("a panel for no beamline", INDEX, x -> x.meet(2));
    refusedAlways("training of nobody", INDEX, x -> x.train(10));
    refusedAlways("nobody comes", INDEX, x -> x.setThere(10, true));
    refusedAlways("a sample for no proposal", INDEX, x -> x.bring(8, 9));
    refusedAlways("a sample of no proposal", INDEX, x -> x.put(8, 'b'));
    refusedAlways("a fault at no beamline", INDEX, x -> x.fail(2));
    refusedAlways("no shifts", RANGE, x -> x.pass(0));
    BeamOffice x = Scene.BUSY.office();
    for (int i = 0; i < 8; i++) {
      check.dueThrow("again and again", STATE, () -> x.meet(0));
      check.dueThrow("again and again", STATE, () -> x.fail(0));
      check.dueThrow("again and again", RANGE, () -> x.pass(21));
    }
    due("many refused calls change nothing", "", Probe.difference(0, Scene.BUSY, x));
  }

  private void firstException() {
    says(TERMS, "If several exceptions apply, the one that is documented first is thrown.");
    refused("addBeamline: run, third", RANGE, Scene.BUSY, x -> x.addBeamline(2, 10));
    refused("addBeamline: room, third", RANGE, Scene.BUSY, x -> x.addBeamline(3, 1000));
    refused("setRate: beamline, rate", INDEX, Scene.BUSY, x -> x.setRate(2, 100));
    refused("setRate: beamline, rate", INDEX, Scene.NEW, x -> x.setRate(0, -1));
    int[][] wrong = {{10, 50, 3, 20}, {1, 101, 3, 20}, {1, 50, 10, 20}, {1, 50, 3, 100},
      {-1, -1, 0, -1}};
    for (int[] w : wrong) {
      String which = "propose " + w[0] + " " + w[1] + " " + w[2] + " " + w[3];
      refused(which + ": beamline, numbers", INDEX, Scene.BUSY,
          x -> x.propose(2, w[0], w[1], w[2], w[3]));
      refused(which + ": beamline, numbers, ninth", INDEX, Scene.FULL,
          x -> x.propose(-1, w[0], w[1], w[2], w[3]));
      refused(which + ": numbers, panel", RANGE, Scene.BUSY,
          x -> x.propose(0, w[0], w[1], w[2], w[3]));
      refused(which + ": numbers, panel, ninth", RANGE, Scene.FULL,
          x -> x.propose(0, w[0], w[1], w[2], w[3]));
    }
    refused("propose: beamline, ninth", INDEX, Scene.FULL, x -> x.propose(2, 1, 50, 3, 20));
    refused("bring: proposal, life", INDEX, Scene.BUSY, x -> x.bring(5, 0));
    refused("bring: proposal, life", INDEX, Scene.NEW, x -> x.bring(0, 51));
    refused("put: proposal, place", INDEX, Scene.BUSY, x -> x.put(5, 'x'));
    refused("put: proposal, full cold", INDEX, Scene.FULL, x -> x.put(8, 'c'));
    refused("put: place, no sample", RANGE, Scene.BUSY, x -> x.put(3, 'x'));
    refused("put: place, no sample, full cold", RANGE, Scene.FULL, x -> x.put(7, 'C'));
    refused("put: no sample, full cold", NONE, Scene.FULL, x -> x.put(7, 'c'));
    refused("pass: number, 200", RANGE, Scene.FULL, x -> x.pass(21));
    refused("pass: number, 200", RANGE, Scene.FULL, x -> x.pass(Integer.MAX_VALUE));
    refused("pass: number", RANGE, Scene.FULL, x -> x.pass(0));
    refused("count: proposal, kind", INDEX, Scene.BUSY, x -> x.count(5, 'x'));
    refused("count: proposal, kind", INDEX, Scene.NEW, x -> x.count(0, 'x'));
  }
}
