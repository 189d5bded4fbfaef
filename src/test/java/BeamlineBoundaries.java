/**
 * Promises 1 to 6: what each call takes, returns and throws, on both sides of each boundary, and
 * that the calls that are refused change nothing.
 */
final class BeamlineBoundaries extends Boundaries {
  BeamlineBoundaries(Check check, Document document) {
    super(check, document);
  }

  void run() {
    promise1NewObject();
    promise2Shifts();
    promise2Room();
    promise2Returns();
    promise2OutOfRange();
    promise2TwoBeamlines();
    promise3Units();
    promise3Returns();
    promise3NoBeamline();
    promise3OutOfRange();
    promise4User();
    promise4Score();
    promise4Wanted();
    promise4Data();
    promise4Returns();
    promise4NoBeamline();
    promise4OutOfRange();
    promise4MetOrEight();
    promise5Returns();
    promise5NoBeamline();
    promise5Met();
    promise6Returns();
    promise6NoBeamline();
    promise6NotMet();
  }

  private void promise1NewObject() {
    saysInShort(1, "Creates an office without beamlines and proposals, at the time 0.");
    refusedAround(INDEX, Scene.NEW, 0, -1, (x, line) -> x.used(line));
    refusedAround(INDEX, Scene.NEW, 0, -1, (x, work) -> x.left(work));
    BeamOffice x = new BeamOffice();
    due("the time", 0, x.time());
    due("the first beamline", 0, x.addBeamline(3, 10));
    due("the first proposal", 0, x.propose(0, 0, 0, 1, 0));
    BeamOffice y = new BeamOffice();
    check.dueThrow("another object has its own", INDEX, () -> y.used(0));
    passAll(x, 200);
    due("and its own time", 0, y.time());
  }

  private void promise2Shifts() {
    says(2, "- `shifts`: the shifts of its run, 3 to 40");
    for (int shifts = 3; shifts <= 40; shifts++) {
      BeamOffice x = office(shifts, 10);
      x.meet(0);
      due(shifts + " shifts", shifts, x.reserve(0));
    }
    refusedAround(RANGE, Scene.NEW, 3, 40, (x, shifts) -> x.addBeamline(shifts, 10));
    refusedAround(RANGE, Scene.WRITTEN, 3, 40, (x, shifts) -> x.addBeamline(shifts, 999));
  }

  private void promise2Room() {
    says(2, "- `room`: the room of its disk, 10 to 999");
    for (int room = 10; room <= 999; room++) {
      dueRoom(room);
    }
    refusedAround(RANGE, Scene.NEW, 10, 999, (x, room) -> x.addBeamline(3, room));
    refusedAround(RANGE, Scene.WRITTEN, 10, 999, (x, room) -> x.addBeamline(40, room));
  }

  private void promise2Returns() {
    says(2, "Returns the number of the beamline.");
    BeamOffice x = new BeamOffice();
    due("the first", 0, x.addBeamline(40, 999));
    check.dueThrow("a refused one has no number", RANGE, () -> x.addBeamline(2, 999));
    due("the second", 1, x.addBeamline(3, 10));
  }

  private void promise2OutOfRange() {
    says(2, "Throws `IllegalArgumentException` if a number is out of range");
    due("both least", 0, new BeamOffice().addBeamline(3, 10));
    due("both most", 0, new BeamOffice().addBeamline(40, 999));
    due("least and most", 0, new BeamOffice().addBeamline(3, 999));
    due("most and least", 0, new BeamOffice().addBeamline(40, 10));
    refused("both too small", RANGE, Scene.NEW, y -> y.addBeamline(2, 9));
    refused("both too large", RANGE, Scene.NEW, y -> y.addBeamline(41, 1000));
    refused("the one for the other", RANGE, Scene.NEW, y -> y.addBeamline(999, 10));
  }

  private void promise2TwoBeamlines() {
    says(2, "Throws `IllegalStateException` if there are 2 beamlines");
    BeamOffice x = office(3, 10);
    due("there is 1", 1, x.addBeamline(3, 10));
    check.dueThrow("there are 2", STATE, () -> x.addBeamline(3, 10));
    refused("there are 2", STATE, Scene.BUSY, y -> y.addBeamline(40, 999));
    refused("there are 2", STATE, Scene.FULL, y -> y.addBeamline(3, 10));
  }

  /** Fills a disk by shifts of 90 units, up to the last shift that it has room for. */
  private void dueRoom(int room) {
    int whole = room / 90;
    int rest = room % 90;
    BeamOffice x = staffed(40, room);
    x.propose(0, 1, 90, 9, 90);
    x.propose(0, 1, 80, 9, 90);
    x.propose(0, 1, 70, 1, rest);
    x.propose(0, 1, 60, 1, 1);
    x.meet(0);
    for (int work = 0; work < 4; work++) {
      sample(x, work);
    }
    due("shifts of 90 units for the room " + room, whole, x.pass(18));
    due("open for just the room " + room, '-', x.reason(0));
    due("the rest of the room " + room, 1, x.pass(1));
    due("all of the room " + room, room, x.used(0));
    due("closed for more than the room " + room, 'd', x.reason(0));
  }

  private void promise3Units() {
    says(3, "- `units`: the rate, 0 to 99");
    BeamOffice x = office(3, 10);
    for (int units = 0; units <= 99; units++) {
      due("the one before " + units, Math.max(0, units - 1), x.setRate(0, units));
    }
    due("the most before", 99, x.setRate(0, 0));
    due("the least before", 0, x.setRate(0, 0));
    refusedAround(RANGE, Scene.WRITTEN, 0, 99, (y, units) -> y.setRate(0, units));
    refusedAround(RANGE, Scene.FULL, 0, 99, (y, units) -> y.setRate(1, units));
  }

  private void promise3Returns() {
    says(3, "Returns the rate before.");
    BeamOffice x = office(3, 10);
    x.addBeamline(3, 10);
    due("at first", 0, x.setRate(1, 7));
    due("the other's", 0, x.setRate(0, 8));
    check.dueThrow("a refused one", RANGE, () -> x.setRate(1, 100));
    due("is not the one before", 7, x.setRate(1, 7));
    due("the same again", 7, x.setRate(1, 9));
    x.pass(1);
    due("also behind a shift", 9, x.setRate(1, 0));
  }

  private void promise3NoBeamline() {
    says(3, NO_BEAMLINE);
    refusedBeamlines((z, line) -> z.setRate(line, 9));
    due("the last one that there is", 2, Scene.BUSY.office().setRate(1, 9));
  }

  private void promise3OutOfRange() {
    says(3, "Throws `IllegalArgumentException` if the rate is out of range");
    due("the most", 3, Scene.BUSY.office().setRate(0, 99));
    due("the least", 3, Scene.BUSY.office().setRate(0, 0));
    refused("more", RANGE, Scene.BUSY, z -> z.setRate(0, 100));
    refused("less", RANGE, Scene.BUSY, z -> z.setRate(0, -1));
  }

  private void promise4User() {
    says(4, "- `user`: the user, 0 to 9");
    for (int user = 0; user <= 9; user++) {
      BeamOffice x = office(3, 10);
      x.propose(0, user, 0, 3, 0);
      x.meet(0);
      due("not trained " + user, 't', x.reason(0));
      x.train(user);
      due("trained " + user, 'p', x.reason(0));
      lose(x, 0, 1);
      due("owed to " + user, user, x.mostOwed());
    }
    refusedAround(RANGE, Scene.WRITTEN, 0, 9, (x, user) -> x.propose(0, user, 50, 3, 20));
  }

  private void promise4Score() {
    says(4, "- `score`: the score, 0 to 100");
    for (int score = 0; score <= 100; score++) {
      BeamOffice x = office(3, 10);
      x.propose(0, 0, score, 1, 0);
      due("in the queue with " + score, 1, x.meet(0));
      due("the mean of " + score, (double) score, x.meanScore());
    }
    refusedAround(RANGE, Scene.WRITTEN, 0, 100, (x, score) -> x.propose(0, 1, score, 3, 20));
  }

  private void promise4Wanted() {
    says(4, "- `wanted`: the shifts that it wants, 1 to 9");
    for (int wanted = 1; wanted <= 9; wanted++) {
      BeamOffice x = office(9, 10);
      x.propose(0, 0, 50, wanted, 0);
      x.meet(0);
      due("left of " + wanted, wanted, x.left(0));
      due("reserve without " + wanted, 9 - wanted, x.reserve(0));
    }
    refusedAround(RANGE, Scene.WRITTEN, 1, 9, (x, wanted) -> x.propose(0, 1, 50, wanted, 20));
  }

  private void promise4Data() {
    says(4, "- `data`: the data of a shift, 0 to 99");
    for (int data = 0; data <= 99; data++) {
      BeamOffice x = open(9, 200, 2, data);
      x.pass(2);
      due("two shifts of " + data, 2 * data, x.used(0));
    }
    refusedAround(RANGE, Scene.WRITTEN, 0, 99, (x, data) -> x.propose(0, 1, 50, 3, data));
  }

  private void promise4Returns() {
    says(4, "Returns the number of the proposal.");
    BeamOffice x = office(40, 10);
    x.addBeamline(40, 10);
    int[] lines = {1, 1, 0, 1, 0, 0, 1, 0};
    for (int i = 0; i < lines.length; i++) {
      int line = lines[i];
      due("one number after the other", i, x.propose(line, 0, 50, 1, 0));
      Check.outcome(() -> x.propose(line, 10, 50, 1, 0));
    }
  }

  private void promise4NoBeamline() {
    says(4, NO_BEAMLINE);
    refusedBeamlines((y, line) -> y.propose(line, 1, 50, 3, 20));
    due("the last one that there is", 5, Scene.BUSY.office().propose(1, 1, 50, 3, 20));
  }

  private void promise4OutOfRange() {
    says(4, "Throws `IllegalArgumentException` if another number is out of range");
    due("all least", 5, Scene.BUSY.office().propose(1, 0, 0, 1, 0));
    due("all most", 5, Scene.BUSY.office().propose(1, 9, 100, 9, 99));
    refused("all below", RANGE, Scene.BUSY, y -> y.propose(1, -1, -1, 0, -1));
    refused("all above", RANGE, Scene.BUSY, y -> y.propose(1, 10, 101, 10, 100));
    refused("the user below", RANGE, Scene.BUSY, y -> y.propose(1, -1, 0, 1, 0));
    refused("the user above", RANGE, Scene.BUSY, y -> y.propose(1, 10, 100, 9, 99));
    refused("the score below", RANGE, Scene.BUSY, y -> y.propose(1, 0, -1, 1, 0));
    refused("the score above", RANGE, Scene.BUSY, y -> y.propose(1, 9, 101, 9, 99));
    refused("none wanted", RANGE, Scene.BUSY, y -> y.propose(1, 0, 0, 0, 0));
    refused("too many wanted", RANGE, Scene.BUSY, y -> y.propose(1, 9, 100, 10, 99));
    refused("the data below", RANGE, Scene.BUSY, y -> y.propose(1, 0, 0, 1, -1));
    refused("the data above", RANGE, Scene.BUSY, y -> y.propose(1, 9, 100, 9, 100));
  }

  private void promise4MetOrEight() {
    says(4, "Throws `IllegalStateException` if the panel has met for the beamline, or there "
        + "are 8 proposals");
    BeamOffice x = office(40, 10);
    x.addBeamline(40, 10);
    for (int i = 0; i < 7; i++) {
      x.propose(0, 0, 50, 1, 0);
    }
    x.meet(0);
    check.dueThrow("met, with 7 of them", STATE, () -> x.propose(0, 0, 50, 1, 0));
    due("not met, with 7 of them", 7, x.propose(1, 0, 50, 1, 0));
    check.dueThrow("not met, with 8 of them", STATE, () -> x.propose(1, 0, 50, 1, 0));
    check.dueThrow("met, with 8 of them", STATE, () -> x.propose(0, 0, 50, 1, 0));
    refused("met", STATE, Scene.BUSY, y -> y.propose(0, 1, 50, 3, 20));
    refused("8 of them", STATE, Scene.FULL, y -> y.propose(1, 1, 50, 3, 20));
  }

  private void promise5Returns() {
    says(5, "Returns the number of proposals in its queue.");
    for (int number = 0; number <= 8; number++) {
      BeamOffice x = office(8, 10);
      for (int i = 0; i < number; i++) {
        x.propose(0, 0, 50, 1, 0);
      }
      due("of " + number, number, x.meet(0));
    }
    for (int run = 3; run <= 9; run++) {
      BeamOffice x = office(run, 10);
      x.addBeamline(40, 10);
      for (int i = 0; i < 7; i++) {
        x.propose(0, 0, 50, 2, 0);
      }
      x.propose(1, 0, 50, 1, 0);
      due("twos in " + run, run / 2, x.meet(0));
      due("of the other alone", 1, x.meet(1));
    }
    BeamOffice x = office(8, 10);
    x.propose(0, 0, 50, 9, 0);
    due("none that fits", 0, x.meet(0));
  }

  private void promise5NoBeamline() {
    says(5, NO_BEAMLINE);
    refusedBeamlines((y, line) -> y.meet(line));
    due("the last one that there is", 1, Scene.BUSY.office().meet(1));
  }

  private void promise5Met() {
    says(5, "Throws `IllegalStateException` if the panel has met for it");
    due("it has not", 2, Scene.WRITTEN.office().meet(0));
    refused("it has", STATE, Scene.BUSY, y -> y.meet(0));
    refused("it has", STATE, Scene.FULL, y -> y.meet(0));
    refused("both have", STATE, Scene.FULL, y -> y.meet(1));
  }

  private void promise6Returns() {
    says(6, "Returns the number of shifts.");
    BeamOffice x = office(9, 10);
    x.addBeamline(9, 10);
    x.propose(0, 0, 50, 9, 0);
    x.propose(1, 0, 50, 8, 0);
    x.meet(0);
    x.meet(1);
    due("none", 0, x.reserve(0));
    due("one", 1, x.reserve(1));
    lose(x, 0, 1);
    due("none becomes no less", 0, x.reserve(0));
    due("the other stays", 1, x.reserve(1));
    lose(x, 1, 1);
    due("one becomes none", 0, x.reserve(1));
    BeamOffice y = office(40, 10);
    y.meet(0);
    due("the whole run", 40, y.reserve(0));
    lose(y, 0, 1);
    due("a fault with none on takes nothing", 40, y.reserve(0));
  }

  private void promise6NoBeamline() {
    says(6, NO_BEAMLINE);
    refusedBeamlines((z, line) -> z.reserve(line));
    due("the last one that there is", 1, Scene.FULL.office().reserve(1));
  }

  private void promise6NotMet() {
    says(6, "Throws `IllegalStateException` if the panel has not met for it");
    refused("it has not", STATE, Scene.WRITTEN, z -> z.reserve(0));
    refused("the other has", STATE, Scene.BUSY, z -> z.reserve(1));
    due("it has", 0, Scene.BUSY.office().reserve(0));
    BeamOffice x = Scene.WRITTEN.office();
    x.meet(0);
    due("it has now", 5, x.reserve(0));
  }
}
