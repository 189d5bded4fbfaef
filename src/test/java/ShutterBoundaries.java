/**
 * Promises 12 to 17: what each call takes, returns and throws, on both sides of each boundary, and
 * that the calls that are refused change nothing.
 */
final class ShutterBoundaries extends Boundaries {
  ShutterBoundaries(Check check, Document document) {
    super(check, document);
  }

  void run() {
    promise12Returns();
    promise12NoBeamline();
    promise12NoneOn();
    promise13Returns();
    promise13NoBeamline();
    promise14ForThisShift();
    promise14Returns();
    promise14NoBeamline();
    promise14Fault();
    promise15Shifts();
    promise15OutOfRange();
    promise15Returns();
    promise15MoreThan200();
    promise16Returns();
    promise17Returns();
    promise17NoBeamline();
  }

  private void promise12Returns() {
    says(12, "Returns the number of the proposal.");
    BeamOffice x = office(40, 10);
    x.addBeamline(40, 10);
    for (int i = 0; i < 8; i++) {
      x.propose(i % 2, 0, 90 - 10 * i, 1, 0);
    }
    x.meet(0);
    x.meet(1);
    for (int i = 0; i < 4; i++) {
      due("at the first", 2 * i, x.on(0));
      due("at the second", 2 * i + 1, x.on(1));
      x.pass(1);
    }
  }

  private void promise12NoBeamline() {
    says(12, NO_BEAMLINE);
    refusedBeamlines((y, line) -> y.on(line));
    BeamOffice last = Scene.BUSY.office();
    last.meet(1);
    due("the last one that there is", 3, last.on(1));
  }

  private void promise12NoneOn() {
    says(12, "Throws `NoSuchElementException` if none is on");
    refused("before the panel", NONE, Scene.WRITTEN, z -> z.on(0));
    refused("before the other panel", NONE, Scene.BUSY, z -> z.on(1));
    BeamOffice x = office(3, 10);
    x.meet(0);
    check.dueThrow("with an empty queue", NONE, () -> x.on(0));
    BeamOffice y = office(3, 10);
    y.propose(0, 0, 0, 3, 0);
    y.meet(0);
    y.pass(2);
    due("with one shift left", 0, y.on(0));
    lose(y, 0, 1);
    check.dueThrow("when the last one is lost", NONE, () -> y.on(0));
  }

  private void promise13Returns() {
    says(13, "Returns the reason, or '-' if it is open.");
    BeamOffice x = office(20, 10);
    due("without a proposal", 'q', x.reason(0));
    x.propose(0, 9, 0, 9, 10);
    due("before the panel", 'q', x.reason(0));
    x.meet(0);
    due("not trained", 't', x.reason(0));
    x.train(9);
    due("not there", 'p', x.reason(0));
    x.setThere(9, true);
    due("no sample", 's', x.reason(0));
    sample(x, 0);
    due("open", '-', x.reason(0));
    x.fail(0);
    due("a fault", 'f', x.reason(0));
    x.pass(1);
    due("open again", '-', x.reason(0));
    x.pass(1);
    due("no room", 'd', x.reason(0));
    x.put(0, 'r');
    due("the sample before the room", 's', x.reason(0));
    x.pass(8);
    due("behind the last shift", 'q', x.reason(0));
  }

  private void promise13NoBeamline() {
    says(13, NO_BEAMLINE);
    refusedBeamlines((y, line) -> y.reason(line));
    due("the last one that there is", 'q', Scene.BUSY.office().reason(1));
  }

  private void promise14ForThisShift() {
    saysInShort(14, "Reports a fault at a beamline, for this shift.");
    BeamOffice x = open(20, 10, 9, 0);
    x.fail(0);
    due("this shift is lost", 0, x.pass(1));
    due("the next is not", 1, x.pass(1));
    x.fail(0);
    due("of two the first alone", 1, x.pass(2));
    due("two are lost", 2, x.count(0, 'l'));
  }

  private void promise14Returns() {
    says(14, "Returns whether a proposal is on.");
    due("one is", true, open(3, 10, 3, 0).fail(0));
    due("one is, without its user", true, Scene.FULL.office().fail(1));
    due("none before the panel", false, Scene.WRITTEN.office().fail(0));
    due("none before the other panel", false, Scene.BUSY.office().fail(1));
    BeamOffice x = open(20, 10, 2, 0);
    x.pass(1);
    due("one with its last shift", true, x.fail(0));
    x.pass(2);
    due("none behind it", false, x.fail(0));
    BeamOffice y = office(3, 10);
    y.meet(0);
    due("none in an empty queue", false, y.fail(0));
  }

  private void promise14NoBeamline() {
    says(14, NO_BEAMLINE);
    refusedBeamlines((w, line) -> w.fail(line));
    due("the last one that there is", false, Scene.BUSY.office().fail(1));
  }

  private void promise14Fault() {
    says(14, "Throws `IllegalStateException` if there is a fault");
    refused("there is one", STATE, Scene.BUSY, z -> z.fail(0));
    BeamOffice x = Scene.BUSY.office();
    due("none at the other", false, x.fail(1));
    check.dueThrow("one where none is on", STATE, () -> x.fail(1));
    x.pass(1);
    due("none behind the shift", true, x.fail(0));
    due("nor where none is on", false, x.fail(1));
    check.dueThrow("again one", STATE, () -> x.fail(0));
    BeamOffice y = Scene.WRITTEN.office();
    y.fail(0);
    y.meet(0);
    check.dueThrow("the panel does not mend it", STATE, () -> y.fail(0));
    due("it counts then", 'f', y.reason(0));
  }

  private void promise15Shifts() {
    says(15, "- `shifts`: the number of shifts, 1 to 20");
    for (int shifts = 1; shifts <= 20; shifts++) {
      BeamOffice x = new BeamOffice();
      x.pass(shifts);
      due(shifts + " have passed", shifts, x.time());
    }
    refusedAround(RANGE, Scene.NEW, 1, 20, (x, shifts) -> x.pass(shifts));
    refusedAround(RANGE, Scene.BUSY, 1, 20, (x, shifts) -> x.pass(shifts));
  }

  private void promise15OutOfRange() {
    says(15, "Throws `IllegalArgumentException` if the number is out of range");
    due("the least", 0, Scene.BUSY.office().pass(1));
    due("the most", 0, Scene.WRITTEN.office().pass(20));
    refused("none", RANGE, Scene.WRITTEN, x -> x.pass(0));
    refused("more", RANGE, Scene.WRITTEN, x -> x.pass(21));
    refused("less than none", RANGE, Scene.FULL, x -> x.pass(-1));
    refused("back to the time 0", RANGE, Scene.FULL, x -> x.pass(-190));
    refused("as many as are there", RANGE, Scene.NEW, x -> x.pass(200));
    refusedAround(RANGE, Scene.FULL, 1, 20, (x, shifts) -> x.pass(shifts));
  }

  private void promise15Returns() {
    says(15, "Returns the number of shifts that were done.");
    due("none of none", 0, new BeamOffice().pass(20));
    BeamOffice x = staffed(40, 999);
    x.addBeamline(40, 999);
    for (int i = 0; i < 6; i++) {
      x.propose(i % 2, 0, 50, 9, 1);
      sample(x, i);
    }
    due("none before the panels", 0, x.pass(1));
    x.meet(0);
    due("all of the one", 1, x.pass(1));
    x.meet(1);
    due("all of both", 40, x.pass(20));
    due("the last ones", 6 + 7, x.pass(20));
    due("none are left", 0, x.pass(20));
    due("27 at the one", 27, x.used(0));
    due("27 at the other", 27, x.used(1));
    BeamOffice y = open(40, 999, 9, 0);
    y.bring(0, 5);
    y.put(0, 'b');
    due("as long as the sample lasts", 5, y.pass(20));
    due("the rest is missed", 4, y.count(0, 'm'));
    BeamOffice z = open(40, 40, 9, 20);
    due("as long as there is room", 2, z.pass(5));
    z.setRate(0, 10);
    due("as often as there is room", 1, z.pass(4));
    due("three done", 3, z.count(0, 'd'));
  }

  private void promise15MoreThan200() {
    says(15, "Throws `IllegalStateException` if more than 200 shifts would have passed");
    for (int shifts = 1; shifts <= 20; shifts++) {
      BeamOffice x = new BeamOffice();
      int number = shifts;
      passAll(x, 200 - shifts);
      if (shifts < 20) {
        check.dueThrow("one more than " + shifts, STATE, () -> x.pass(number + 1));
        due("none has passed", 200 - shifts, x.time());
      }
      due("200 with " + shifts, 0, x.pass(shifts));
      check.dueThrow("201", STATE, () -> x.pass(1));
      due("at the end", 200, x.time());
    }
    due("10 behind 190", 0, Scene.FULL.office().pass(10));
    for (int shifts = 11; shifts <= 20; shifts++) {
      int number = shifts;
      refused("behind 190: " + shifts, STATE, Scene.FULL, x -> x.pass(number));
    }
  }

  private void promise16Returns() {
    says(16, "Returns the number of shifts that have passed.");
    BeamOffice x = new BeamOffice();
    for (int shift = 0; shift < 200; shift++) {
      due("so many", shift, x.time());
      x.pass(1);
    }
    due("all", 200, x.time());
    check.dueThrow("a refused one", STATE, () -> x.pass(1));
    due("does not count", 200, x.time());
    due("a scene's", 5, Scene.BUSY.office().time());
    due("a full scene's", 190, Scene.FULL.office().time());
  }

  private void promise17Returns() {
    says(17, "Returns the units of data.");
    BeamOffice x = open(20, 99, 9, 33);
    due("none", 0, x.used(0));
    x.pass(1);
    due("of one", 33, x.used(0));
    x.pass(1);
    due("of two", 66, x.used(0));
    x.pass(1);
    due("a full disk", 99, x.used(0));
    x.pass(1);
    due("is not fuller", 99, x.used(0));
    x.setRate(0, 99);
    due("not moved by setting a rate", 99, x.used(0));
    x.pass(1);
    due("all moved", 0, x.used(0));
    x.pass(1);
    due("moved in its own shift", 0, x.used(0));
    BeamOffice y = open(20, 999, 9, 99);
    y.setRate(0, 98);
    y.pass(9);
    due("one unit more than the rate, nine times", 9, y.used(0));
  }

  private void promise17NoBeamline() {
    says(17, NO_BEAMLINE);
    refusedBeamlines((z, line) -> z.used(line));
    due("the last one that there is", 0, Scene.BUSY.office().used(1));
  }
}
