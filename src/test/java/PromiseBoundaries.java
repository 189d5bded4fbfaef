/**
 * What each promise takes, returns and throws, on both sides of each boundary: the last call that
 * is answered and the first that is refused, and that the refused one changes nothing.
 */
final class PromiseBoundaries extends Boundaries {
  private static final String NO_BEAMLINE =
      "Throws `IndexOutOfBoundsException` if there is no such beamline";
  private static final String NO_PROPOSAL =
      "Throws `IndexOutOfBoundsException` if there is no such proposal";
  private static final String NO_USER =
      "Throws `IndexOutOfBoundsException` if there is no such user";

  PromiseBoundaries(Check check, Document document) {
    super(check, document);
  }

  void run() {
    newObject();
    addBeamline();
    setRate();
    proposeNumbers();
    propose();
    meet();
    reserve();
    train();
    setThere();
    bring();
    putPlaces();
    put();
    life();
    on();
    reason();
    fail();
    passNumbers();
    passReturns();
    passMost();
    time();
    used();
    left();
    leftAnew();
    nextAt();
    countKinds();
    count();
    mostOwed();
    mostOwedOfSeveral();
    doneShare();
    meanScore();
  }

  private void newObject() {
    saysInShort("Promise 1", "Creates an office without beamlines and proposals, at the time 0.");
    refusedAround(INDEX, Scene.NEW, 0, -1, (x, line) -> x.used(line));
    refusedAround(INDEX, Scene.NEW, 0, -1, (x, work) -> x.left(work));
    BeamOffice x = new BeamOffice();
    due("the time", 0, x.time());
    due("the first beamline", 0, x.addBeamline(3, 10));
    due("the first proposal", 0, x.propose(0, 0, 0, 1, 0));
    BeamOffice y = new BeamOffice();
    check.dueThrow("another object has its own", INDEX, () -> y.used(0));
    passAll(x, 200);
    due("and its own time", 0, y.time());
  }

  private void addBeamline() {
    String promise = "Promise 2";
    says(promise, "- `shifts`: the shifts of its run, 3 to 40");
    for (int shifts = 3; shifts <= 40; shifts++) {
      BeamOffice x = office(shifts, 10);
      x.meet(0);
      due(shifts + " shifts", shifts, x.reserve(0));
    }
    refusedAround(RANGE, Scene.NEW, 3, 40, (x, shifts) -> x.addBeamline(shifts, 10));
    refusedAround(RANGE, Scene.WRITTEN, 3, 40, (x, shifts) -> x.addBeamline(shifts, 999));
    says(promise, "- `room`: the room of its disk, 10 to 999");
    for (int room = 10; room <= 999; room++) {
      dueRoom(room);
    }
    refusedAround(RANGE, Scene.NEW, 10, 999, (x, room) -> x.addBeamline(3, room));
    refusedAround(RANGE, Scene.WRITTEN, 10, 999, (x, room) -> x.addBeamline(40, room));
    says(promise, "Returns the number of the beamline.");
    BeamOffice x = new BeamOffice();
    due("the first", 0, x.addBeamline(40, 999));
    check.dueThrow("a refused one has no number", RANGE, () -> x.addBeamline(2, 999));
    due("the second", 1, x.addBeamline(3, 10));
    says(promise, "Throws `IllegalArgumentException` if a number is out of range");
    due("both least", 0, new BeamOffice().addBeamline(3, 10));
    due("both most", 0, new BeamOffice().addBeamline(40, 999));
    due("least and most", 0, new BeamOffice().addBeamline(3, 999));
    due("most and least", 0, new BeamOffice().addBeamline(40, 10));
    refused("both too small", RANGE, Scene.NEW, y -> y.addBeamline(2, 9));
    refused("both too large", RANGE, Scene.NEW, y -> y.addBeamline(41, 1000));
    refused("the one for the other", RANGE, Scene.NEW, y -> y.addBeamline(999, 10));
    says(promise, "Throws `IllegalStateException` if there are 2 beamlines");
    BeamOffice z = office(3, 10);
    due("there is 1", 1, z.addBeamline(3, 10));
    check.dueThrow("there are 2", STATE, () -> z.addBeamline(3, 10));
    refused("there are 2", STATE, Scene.BUSY, y -> y.addBeamline(40, 999));
    refused("there are 2", STATE, Scene.FULL, y -> y.addBeamline(3, 10));
  }

  /** Fills a disk by shifts of 90 units, up to the last shift that it has room for. */
  private void dueRoom(int room) {
    int whole = room / 90;
    int rest = room % 90;
    BeamOffice x = staffed(40, room);
    x.propose(0, 1, 90, 9, 90);
    x.propose(0, 1, 80, 9, 90);
    x.propose(0, 1, 70, 1, rest);
    x.propose(0, 1, 60, 1, 1);
    x.meet(0);
    for (int work = 0; work < 4; work++) {
      sample(x, work);
    }
    due("shifts of 90 units for the room " + room, whole, x.pass(18));
    due("open for just the room " + room, '-', x.reason(0));
    due("the rest of the room " + room, 1, x.pass(1));
    due("all of the room " + room, room, x.used(0));
    due("closed for more than the room " + room, 'd', x.reason(0));
  }

  private void setRate() {
    String promise = "Promise 3";
    says(promise, "- `units`: the rate, 0 to 99");
    BeamOffice x = office(3, 10);
    for (int units = 0; units <= 99; units++) {
      due("the one before " + units, Math.max(0, units - 1), x.setRate(0, units));
    }
    due("the most before", 99, x.setRate(0, 0));
    due("the least before", 0, x.setRate(0, 0));
    refusedAround(RANGE, Scene.WRITTEN, 0, 99, (y, units) -> y.setRate(0, units));
    refusedAround(RANGE, Scene.FULL, 0, 99, (y, units) -> y.setRate(1, units));
    says(promise, "Returns the rate before.");
    BeamOffice y = office(3, 10);
    y.addBeamline(3, 10);
    due("at first", 0, y.setRate(1, 7));
    due("the other's", 0, y.setRate(0, 8));
    check.dueThrow("a refused one", RANGE, () -> y.setRate(1, 100));
    due("is not the one before", 7, y.setRate(1, 7));
    due("the same again", 7, y.setRate(1, 9));
    y.pass(1);
    due("also behind a shift", 9, y.setRate(1, 0));
    says(promise, NO_BEAMLINE);
    refusedBeamlines((z, line) -> z.setRate(line, 9));
    due("the last one that there is", 2, Scene.BUSY.office().setRate(1, 9));
    says(promise, "Throws `IllegalArgumentException` if the rate is out of range");
    due("the most", 3, Scene.BUSY.office().setRate(0, 99));
    due("the least", 3, Scene.BUSY.office().setRate(0, 0));
    refused("more", RANGE, Scene.BUSY, z -> z.setRate(0, 100));
    refused("less", RANGE, Scene.BUSY, z -> z.setRate(0, -1));
  }

  private void proposeNumbers() {
    String promise = "Promise 4";
    says(promise, "- `user`: the user, 0 to 9");
    for (int user = 0; user <= 9; user++) {
      BeamOffice x = office(3, 10);
      x.propose(0, user, 0, 3, 0);
      x.meet(0);
      due("not trained " + user, 't', x.reason(0));
      x.train(user);
      due("trained " + user, 'p', x.reason(0));
      lose(x, 0, 1);
      due("owed to " + user, user, x.mostOwed());
    }
    refusedAround(RANGE, Scene.WRITTEN, 0, 9, (x, user) -> x.propose(0, user, 50, 3, 20));
    says(promise, "- `score`: the score, 0 to 100");
    for (int score = 0; score <= 100; score++) {
      BeamOffice x = office(3, 10);
      x.propose(0, 0, score, 1, 0);
      due("in the queue with " + score, 1, x.meet(0));
      due("the mean of " + score, (double) score, x.meanScore());
    }
    refusedAround(RANGE, Scene.WRITTEN, 0, 100, (x, score) -> x.propose(0, 1, score, 3, 20));
    says(promise, "- `wanted`: the shifts that it wants, 1 to 9");
    for (int wanted = 1; wanted <= 9; wanted++) {
      BeamOffice x = office(9, 10);
      x.propose(0, 0, 50, wanted, 0);
      x.meet(0);
      due("left of " + wanted, wanted, x.left(0));
      due("reserve without " + wanted, 9 - wanted, x.reserve(0));
    }
    refusedAround(RANGE, Scene.WRITTEN, 1, 9, (x, wanted) -> x.propose(0, 1, 50, wanted, 20));
    says(promise, "- `data`: the data of a shift, 0 to 99");
    for (int data = 0; data <= 99; data++) {
      BeamOffice x = open(9, 200, 2, data);
      x.pass(2);
      due("two shifts of " + data, 2 * data, x.used(0));
    }
    refusedAround(RANGE, Scene.WRITTEN, 0, 99, (x, data) -> x.propose(0, 1, 50, 3, data));
  }

  private void propose() {
    String promise = "Promise 4";
    says(promise, "Returns the number of the proposal.");
    BeamOffice x = office(40, 10);
    x.addBeamline(40, 10);
    int[] lines = {1, 1, 0, 1, 0, 0, 1, 0};
    for (int i = 0; i < lines.length; i++) {
      int line = lines[i];
      due("one number after the other", i, x.propose(line, 0, 50, 1, 0));
      Check.outcome(() -> x.propose(line, 10, 50, 1, 0));
    }
    says(promise, NO_BEAMLINE);
    refusedBeamlines((y, line) -> y.propose(line, 1, 50, 3, 20));
    due("the last one that there is", 5, Scene.BUSY.office().propose(1, 1, 50, 3, 20));
    says(promise, "Throws `IllegalArgumentException` if another number is out of range");
    due("all least", 5, Scene.BUSY.office().propose(1, 0, 0, 1, 0));
    due("all most", 5, Scene.BUSY.office().propose(1, 9, 100, 9, 99));
    refused("all below", RANGE, Scene.BUSY, y -> y.propose(1, -1, -1, 0, -1));
    refused("all above", RANGE, Scene.BUSY, y -> y.propose(1, 10, 101, 10, 100));
    refused("the user below", RANGE, Scene.BUSY, y -> y.propose(1, -1, 0, 1, 0));
    refused("the user above", RANGE, Scene.BUSY, y -> y.propose(1, 10, 100, 9, 99));
    refused("the score below", RANGE, Scene.BUSY, y -> y.propose(1, 0, -1, 1, 0));
    refused("the score above", RANGE, Scene.BUSY, y -> y.propose(1, 9, 101, 9, 99));
    refused("none wanted", RANGE, Scene.BUSY, y -> y.propose(1, 0, 0, 0, 0));
    refused("too many wanted", RANGE, Scene.BUSY, y -> y.propose(1, 9, 100, 10, 99));
    refused("the data below", RANGE, Scene.BUSY, y -> y.propose(1, 0, 0, 1, -1));
    refused("the data above", RANGE, Scene.BUSY, y -> y.propose(1, 9, 100, 9, 100));
    says(promise, "Throws `IllegalStateException` if the panel has met for the beamline, or there "
        + "are 8 proposals");
    BeamOffice z = office(40, 10);
    z.addBeamline(40, 10);
    for (int i = 0; i < 7; i++) {
      z.propose(0, 0, 50, 1, 0);
    }
    z.meet(0);
    check.dueThrow("met, with 7 of them", STATE, () -> z.propose(0, 0, 50, 1, 0));
    due("not met, with 7 of them", 7, z.propose(1, 0, 50, 1, 0));
    check.dueThrow("not met, with 8 of them", STATE, () -> z.propose(1, 0, 50, 1, 0));
    check.dueThrow("met, with 8 of them", STATE, () -> z.propose(0, 0, 50, 1, 0));
    refused("met", STATE, Scene.BUSY, y -> y.propose(0, 1, 50, 3, 20));
    refused("8 of them", STATE, Scene.FULL, y -> y.propose(1, 1, 50, 3, 20));
  }

  private void meet() {
    String promise = "Promise 5";
    says(promise, "Returns the number of proposals in its queue.");
    for (int number = 0; number <= 8; number++) {
      BeamOffice x = office(8, 10);
      for (int i = 0; i < number; i++) {
        x.propose(0, 0, 50, 1, 0);
      }
      due("of " + number, number, x.meet(0));
    }
    for (int run = 3; run <= 9; run++) {
      BeamOffice x = office(run, 10);
      x.addBeamline(40, 10);
      for (int i = 0; i < 7; i++) {
        x.propose(0, 0, 50, 2, 0);
      }
      x.propose(1, 0, 50, 1, 0);
      due("twos in " + run, run / 2, x.meet(0));
      due("of the other alone", 1, x.meet(1));
    }
    BeamOffice x = office(8, 10);
    x.propose(0, 0, 50, 9, 0);
    due("none that fits", 0, x.meet(0));
    says(promise, NO_BEAMLINE);
    refusedBeamlines((y, line) -> y.meet(line));
    due("the last one that there is", 1, Scene.BUSY.office().meet(1));
    says(promise, "Throws `IllegalStateException` if the panel has met for it");
    due("it has not", 2, Scene.WRITTEN.office().meet(0));
    refused("it has", STATE, Scene.BUSY, y -> y.meet(0));
    refused("it has", STATE, Scene.FULL, y -> y.meet(0));
    refused("both have", STATE, Scene.FULL, y -> y.meet(1));
  }

  private void reserve() {
    String promise = "Promise 6";
    says(promise, "Returns the number of shifts.");
    BeamOffice x = office(9, 10);
    x.addBeamline(9, 10);
    x.propose(0, 0, 50, 9, 0);
    x.propose(1, 0, 50, 8, 0);
    x.meet(0);
    x.meet(1);
    due("none", 0, x.reserve(0));
    due("one", 1, x.reserve(1));
    lose(x, 0, 1);
    due("none becomes no less", 0, x.reserve(0));
    due("the other stays", 1, x.reserve(1));
    lose(x, 1, 1);
    due("one becomes none", 0, x.reserve(1));
    BeamOffice y = office(40, 10);
    y.meet(0);
    due("the whole run", 40, y.reserve(0));
    lose(y, 0, 1);
    due("a fault with none on takes nothing", 40, y.reserve(0));
    says(promise, NO_BEAMLINE);
    refusedBeamlines((z, line) -> z.reserve(line));
    due("the last one that there is", 1, Scene.FULL.office().reserve(1));
    says(promise, "Throws `IllegalStateException` if the panel has not met for it");
    refused("it has not", STATE, Scene.WRITTEN, z -> z.reserve(0));
    refused("the other has", STATE, Scene.BUSY, z -> z.reserve(1));
    due("it has", 0, Scene.BUSY.office().reserve(0));
    BeamOffice w = Scene.WRITTEN.office();
    w.meet(0);
    due("it has now", 5, w.reserve(0));
  }

  private void train() {
    String promise = "Promise 7";
    says(promise, "- `user`: the user, 0 to 9");
    due("the least", 1, new BeamOffice().train(0));
    due("the most", 1, new BeamOffice().train(9));
    refusedAround(INDEX, Scene.NEW, 0, 9, (x, user) -> x.train(user));
    says(promise, "Returns the number of users who are trained.");
    BeamOffice x = new BeamOffice();
    for (int user = 9; user >= 0; user--) {
      int trained = user;
      due("one more", 10 - user, x.train(user));
      check.dueThrow("a refused one", STATE, () -> x.train(trained));
    }
    says(promise, NO_USER);
    refusedUsers((y, user) -> y.train(user));
    due("the last one that there is", 3, Scene.BUSY.office().train(9));
    says(promise, "Throws `IllegalStateException` if the user is trained");
    due("not yet", 1, new BeamOffice().train(5));
    for (int user = 0; user <= 9; user++) {
      int trained = user;
      refused("user " + user, STATE, Scene.FULL, y -> y.train(trained));
    }
    refused("user 1", STATE, Scene.BUSY, y -> y.train(1));
    refused("user 2", STATE, Scene.BUSY, y -> y.train(2));
    due("user 3", 3, Scene.BUSY.office().train(3));
  }

  private void setThere() {
    String promise = "Promise 8";
    says(promise, "- `user`: the user, 0 to 9");
    due("the least", false, new BeamOffice().setThere(0, true));
    due("the most", false, new BeamOffice().setThere(9, true));
    refusedAround(INDEX, Scene.NEW, 0, 9, (x, user) -> x.setThere(user, true));
    refusedAround(INDEX, Scene.NEW, 0, 9, (x, user) -> x.setThere(user, false));
    says(promise, "Returns whether the user was before.");
    boolean[] steps = {false, true, true, false, false, true};
    for (int user = 0; user <= 9; user++) {
      BeamOffice x = new BeamOffice();
      boolean before = false;
      for (boolean step : steps) {
        due("before " + step, before, x.setThere(user, step));
        before = step;
      }
      x.pass(20);
      due("who is there stays", true, x.setThere(user, false));
    }
    says(promise, NO_USER);
    refusedUsers((x, user) -> x.setThere(user, true));
    refusedUsers((x, user) -> x.setThere(user, false));
    due("the last one that there is", true, Scene.FULL.office().setThere(9, true));
  }

  private void bring() {
    String promise = "Promise 9";
    saysInShort(promise, "Brings a sample into the room, in place of one that the proposal has.");
    for (char place : new char[] {'r', 'c', 'b'}) {
      BeamOffice x = office(3, 10);
      x.propose(0, 0, 0, 1, 0);
      x.bring(0, 9);
      x.put(0, place);
      due("in place of one in " + place, 9, x.bring(0, 8));
      due("into the room, from " + place, 'r', x.put(0, place));
      x.pass(1);
      due("it ages where it is, in " + place, place == 'c' ? 8 : 7, x.life(0));
    }
    says(promise, "- `life`: its life, 1 to 50");
    BeamOffice x = office(3, 10);
    x.propose(0, 0, 0, 1, 0);
    for (int life = 1; life <= 50; life++) {
      due("before " + life, life == 1 ? -1 : life - 1, x.bring(0, life));
      due("the life " + life, life, x.life(0));
    }
    refusedAround(RANGE, Scene.WRITTEN, 1, 50, (y, life) -> y.bring(0, life));
    refusedAround(RANGE, Scene.WRITTEN, 1, 50, (y, life) -> y.bring(1, life));
    says(promise, "Returns the life of the sample before, or -1.");
    BeamOffice y = office(3, 10);
    y.propose(0, 0, 0, 1, 0);
    check.dueThrow("a refused one", RANGE, () -> y.bring(0, 51));
    due("none before", -1, y.bring(0, 1));
    due("one before", 1, y.bring(0, 1));
    y.pass(1);
    due("a spoilt one before", 0, y.bring(0, 50));
    y.pass(1);
    due("one that has aged", 49, y.bring(0, 50));
    due("one that has not", 50, y.bring(0, 50));
    says(promise, NO_PROPOSAL);
    refusedProposals((z, work) -> z.bring(work, 9));
    due("the last one that there is", -1, Scene.FULL.office().bring(7, 9));
    says(promise, "Throws `IllegalArgumentException` if the life is out of range");
    due("the least", 30, Scene.BUSY.office().bring(0, 1));
    due("the most", 30, Scene.BUSY.office().bring(0, 50));
    refused("less", RANGE, Scene.BUSY, z -> z.bring(0, 0));
    refused("more", RANGE, Scene.BUSY, z -> z.bring(0, 51));
    refused("more, without one before", RANGE, Scene.BUSY, z -> z.bring(3, 51));
    refused("more, with a spoilt one before", RANGE, Scene.BUSY, z -> z.bring(2, 51));
  }

  private void putPlaces() {
    String promise = "Promise 10";
    says(promise, "- `place`: the place, 'r' for the room, 'c' for the cold, 'b' for the beamline");
    BeamOffice x = open(20, 10, 9, 0);
    due("the room", 'b', x.put(0, 'r'));
    due("is not the beamline", 's', x.reason(0));
    x.pass(1);
    due("and not cold", 49, x.life(0));
    due("the cold", 'r', x.put(0, 'c'));
    due("is not the beamline", 's', x.reason(0));
    x.pass(1);
    due("but cold", 49, x.life(0));
    due("the beamline", 'c', x.put(0, 'b'));
    due("is the beamline", '-', x.reason(0));
    x.pass(1);
    due("and not cold", 48, x.life(0));
    says(promise, "Throws `IllegalArgumentException` if there is no such place");
    for (char place = 0; place < 300; place++) {
      if (place != 'r' && place != 'c' && place != 'b') {
        dueNoPlace(place);
      }
    }
    dueNoPlace((char) ('r' + 256));
    dueNoPlace((char) ('c' + 32768));
    dueNoPlace(Character.MAX_VALUE);
    for (char place : new char[] {'a', 'd', 'q', 's', 'B', 'C', 'R', '-'}) {
      refused("place " + place, RANGE, Scene.BUSY, y -> y.put(0, place));
      refused("without a sample, place " + place, RANGE, Scene.BUSY, y -> y.put(3, place));
    }
    for (char place : new char[] {'r', 'c', 'b'}) {
      due("place " + place, 'c', Scene.BUSY.office().put(0, place));
    }
  }

  private void dueNoPlace(char place) {
    BeamOffice x = Scene.BUSY.office();
    check.dueThrow("place " + (int) place, RANGE, () -> x.put(0, place));
    due("stays", 'c', x.put(0, 'c'));
  }

  private void put() {
    String promise = "Promise 10";
    says(promise, "Returns the place before.");
    BeamOffice x = open(20, 10, 9, 0);
    due("the beamline", 'b', x.put(0, 'b'));
    check.dueThrow("a refused one", RANGE, () -> x.put(0, 'x'));
    due("is not the place before", 'b', x.put(0, 'c'));
    due("the cold", 'c', x.put(0, 'c'));
    x.pass(20);
    due("still the cold", 'c', x.put(0, 'r'));
    due("the room", 'r', x.put(0, 'r'));
    says(promise, NO_PROPOSAL);
    refusedProposals((y, work) -> y.put(work, 'r'));
    refusedProposals((y, work) -> y.put(work, 'c'));
    due("the last one that there is", 'c', Scene.FULL.office().put(6, 'b'));
    says(promise, "Throws `NoSuchElementException` if the proposal has no sample");
    refused("none", NONE, Scene.WRITTEN, y -> y.put(0, 'r'));
    refused("none", NONE, Scene.BUSY, y -> y.put(3, 'b'));
    refused("none", NONE, Scene.BUSY, y -> y.put(4, 'c'));
    refused("none", NONE, Scene.FULL, y -> y.put(7, 'b'));
    due("one", 'b', Scene.WRITTEN.office().put(1, 'r'));
    due("a spoilt one", 'r', Scene.BUSY.office().put(2, 'b'));
    says(promise, "Throws `UnsupportedOperationException` if it is to be put into the cold, is not "
        + "there yet, and 3 samples are there");
    for (int work = 0; work < 4; work++) {
      int other = work;
      refused("not there yet, 3 are there", FULL, Scene.FULL, y -> y.put(other, 'c'));
      due("not into the cold", 'b', Scene.FULL.office().put(work, 'r'));
    }
    for (int work = 4; work < 7; work++) {
      due("there already", 'c', Scene.FULL.office().put(work, 'c'));
      BeamOffice y = Scene.FULL.office();
      y.put(work, 'b');
      due("2 are there", 'b', y.put(0, 'c'));
      int left = work;
      check.dueThrow("3 are there again", FULL, () -> y.put(left, 'c'));
      due("it stayed", 'b', y.put(left, 'r'));
    }
  }

  private void life() {
    String promise = "Promise 11";
    says(promise, "Returns the life, 0 if it is spoilt.");
    BeamOffice x = office(3, 10);
    x.propose(0, 0, 0, 1, 0);
    x.bring(0, 50);
    for (int shift = 0; shift <= 52; shift++) {
      due("behind " + shift, Math.max(0, 50 - shift), x.life(0));
      x.pass(1);
    }
    x.put(0, 'c');
    due("spoilt in the cold", 0, x.life(0));
    x.bring(0, 1);
    x.put(0, 'c');
    x.pass(20);
    due("1 in the cold", 1, x.life(0));
    says(promise, NO_PROPOSAL);
    refusedProposals((y, work) -> y.life(work));
    due("the last one that there is", 8, Scene.FULL.office().life(3) + 3);
    says(promise, "Throws `NoSuchElementException` if the proposal has no sample");
    refused("none", NONE, Scene.WRITTEN, y -> y.life(0));
    refused("none", NONE, Scene.BUSY, y -> y.life(3));
    refused("none", NONE, Scene.FULL, y -> y.life(7));
    due("one", 5, Scene.WRITTEN.office().life(1));
    due("a spoilt one", 0, Scene.BUSY.office().life(2));
  }

  private void on() {
    String promise = "Promise 12";
    says(promise, "Returns the number of the proposal.");
    BeamOffice x = office(40, 10);
    x.addBeamline(40, 10);
    for (int i = 0; i < 8; i++) {
      x.propose(i % 2, 0, 90 - 10 * i, 1, 0);
    }
    x.meet(0);
    x.meet(1);
    for (int i = 0; i < 4; i++) {
      due("at the first", 2 * i, x.on(0));
      due("at the second", 2 * i + 1, x.on(1));
      x.pass(1);
    }
    says(promise, NO_BEAMLINE);
    refusedBeamlines((y, line) -> y.on(line));
    BeamOffice last = Scene.BUSY.office();
    last.meet(1);
    due("the last one that there is", 3, last.on(1));
    says(promise, "Throws `NoSuchElementException` if none is on");
    refused("before the panel", NONE, Scene.WRITTEN, y -> y.on(0));
    refused("before the other panel", NONE, Scene.BUSY, y -> y.on(1));
    check.dueThrow("when all have run", NONE, () -> x.on(0));
    check.dueThrow("when all have run", NONE, () -> x.on(1));
    BeamOffice z = office(3, 10);
    z.meet(0);
    check.dueThrow("with an empty queue", NONE, () -> z.on(0));
    BeamOffice w = office(3, 10);
    w.propose(0, 0, 0, 3, 0);
    w.meet(0);
    w.pass(2);
    due("with one shift left", 0, w.on(0));
    lose(w, 0, 1);
    check.dueThrow("when the last one is lost", NONE, () -> w.on(0));
  }

  private void reason() {
    String promise = "Promise 13";
    says(promise, "Returns the reason, or '-' if it is open.");
    BeamOffice x = office(20, 10);
    due("without a proposal", 'q', x.reason(0));
    x.propose(0, 9, 0, 9, 10);
    due("before the panel", 'q', x.reason(0));
    x.meet(0);
    due("not trained", 't', x.reason(0));
    x.train(9);
    due("not there", 'p', x.reason(0));
    x.setThere(9, true);
    due("no sample", 's', x.reason(0));
    sample(x, 0);
    due("open", '-', x.reason(0));
    x.fail(0);
    due("a fault", 'f', x.reason(0));
    x.pass(1);
    due("open again", '-', x.reason(0));
    x.pass(1);
    due("no room", 'd', x.reason(0));
    x.put(0, 'r');
    due("the sample before the room", 's', x.reason(0));
    x.pass(8);
    due("behind the last shift", 'q', x.reason(0));
    says(promise, NO_BEAMLINE);
    refusedBeamlines((y, line) -> y.reason(line));
    due("the last one that there is", 'q', Scene.BUSY.office().reason(1));
  }

  private void fail() {
    String promise = "Promise 14";
    saysInShort(promise, "Reports a fault at a beamline, for this shift.");
    BeamOffice x = open(20, 10, 9, 0);
    x.fail(0);
    due("this shift is lost", 0, x.pass(1));
    due("the next is not", 1, x.pass(1));
    x.fail(0);
    due("of two the first alone", 1, x.pass(2));
    due("two are lost", 2, x.count(0, 'l'));
    says(promise, "Returns whether a proposal is on.");
    due("one is", true, open(3, 10, 3, 0).fail(0));
    due("one is, without its user", true, Scene.FULL.office().fail(1));
    due("none before the panel", false, Scene.WRITTEN.office().fail(0));
    due("none before the other panel", false, Scene.BUSY.office().fail(1));
    BeamOffice y = open(20, 10, 2, 0);
    y.pass(1);
    due("one with its last shift", true, y.fail(0));
    y.pass(2);
    due("none behind it", false, y.fail(0));
    BeamOffice z = office(3, 10);
    z.meet(0);
    due("none in an empty queue", false, z.fail(0));
    says(promise, NO_BEAMLINE);
    refusedBeamlines((w, line) -> w.fail(line));
    due("the last one that there is", false, Scene.BUSY.office().fail(1));
    says(promise, "Throws `IllegalStateException` if there is a fault");
    refused("there is one", STATE, Scene.BUSY, w -> w.fail(0));
    BeamOffice v = Scene.BUSY.office();
    due("none at the other", false, v.fail(1));
    check.dueThrow("one where none is on", STATE, () -> v.fail(1));
    v.pass(1);
    due("none behind the shift", true, v.fail(0));
    due("nor where none is on", false, v.fail(1));
    check.dueThrow("again one", STATE, () -> v.fail(0));
    BeamOffice t = Scene.WRITTEN.office();
    t.fail(0);
    t.meet(0);
    check.dueThrow("the panel does not mend it", STATE, () -> t.fail(0));
    due("it counts then", 'f', t.reason(0));
  }

  private void passNumbers() {
    String promise = "Promise 15";
    says(promise, "- `shifts`: the number of shifts, 1 to 20");
    for (int shifts = 1; shifts <= 20; shifts++) {
      BeamOffice x = new BeamOffice();
      x.pass(shifts);
      due(shifts + " have passed", shifts, x.time());
    }
    refusedAround(RANGE, Scene.NEW, 1, 20, (x, shifts) -> x.pass(shifts));
    refusedAround(RANGE, Scene.BUSY, 1, 20, (x, shifts) -> x.pass(shifts));
    says(promise, "Throws `IllegalArgumentException` if the number is out of range");
    due("the least", 0, Scene.BUSY.office().pass(1));
    due("the most", 0, Scene.WRITTEN.office().pass(20));
    refused("none", RANGE, Scene.WRITTEN, x -> x.pass(0));
    refused("more", RANGE, Scene.WRITTEN, x -> x.pass(21));
    refused("less than none", RANGE, Scene.FULL, x -> x.pass(-1));
    refused("back to the time 0", RANGE, Scene.FULL, x -> x.pass(-190));
    refused("as many as are there", RANGE, Scene.NEW, x -> x.pass(200));
    refusedAround(RANGE, Scene.FULL, 1, 20, (x, shifts) -> x.pass(shifts));
  }

  private void passReturns() {
    says("Promise 15", "Returns the number of shifts that were done.");
    due("none of none", 0, new BeamOffice().pass(20));
    BeamOffice x = staffed(40, 999);
    x.addBeamline(40, 999);
    for (int i = 0; i < 6; i++) {
      x.propose(i % 2, 0, 50, 9, 1);
      sample(x, i);
    }
    due("none before the panels", 0, x.pass(1));
    x.meet(0);
    due("all of the one", 1, x.pass(1));
    x.meet(1);
    due("all of both", 40, x.pass(20));
    due("the last ones", 6 + 7, x.pass(20));
    due("none are left", 0, x.pass(20));
    due("27 at the one", 27, x.used(0));
    due("27 at the other", 27, x.used(1));
    BeamOffice y = open(40, 999, 9, 0);
    y.bring(0, 5);
    y.put(0, 'b');
    due("as long as the sample lasts", 5, y.pass(20));
    due("the rest is missed", 4, y.count(0, 'm'));
    BeamOffice z = open(40, 40, 9, 20);
    due("as long as there is room", 2, z.pass(5));
    z.setRate(0, 10);
    due("as often as there is room", 1, z.pass(4));
    due("three done", 3, z.count(0, 'd'));
  }

  private void passMost() {
    says("Promise 15", "Throws `IllegalStateException` if more than 200 shifts would have passed");
    for (int shifts = 1; shifts <= 20; shifts++) {
      BeamOffice x = new BeamOffice();
      int number = shifts;
      passAll(x, 200 - shifts);
      if (shifts < 20) {
        check.dueThrow("one more than " + shifts, STATE, () -> x.pass(number + 1));
        due("none has passed", 200 - shifts, x.time());
      }
      due("200 with " + shifts, 0, x.pass(shifts));
      check.dueThrow("201", STATE, () -> x.pass(1));
      due("at the end", 200, x.time());
    }
    due("10 behind 190", true, Scene.FULL.office().pass(10) >= 0);
    for (int shifts = 11; shifts <= 20; shifts++) {
      int number = shifts;
      refused("behind 190: " + shifts, STATE, Scene.FULL, x -> x.pass(number));
    }
  }

  private void time() {
    says("Promise 16", "Returns the number of shifts that have passed.");
    BeamOffice x = new BeamOffice();
    for (int shift = 0; shift < 200; shift++) {
      due("so many", shift, x.time());
      x.pass(1);
    }
    due("all", 200, x.time());
    check.dueThrow("a refused one", STATE, () -> x.pass(1));
    due("does not count", 200, x.time());
    due("a scene's", 6 - 1, Scene.BUSY.office().time());
    due("a full scene's", 190, Scene.FULL.office().time());
  }

  private void used() {
    String promise = "Promise 17";
    says(promise, "Returns the units of data.");
    BeamOffice x = open(20, 99, 9, 33);
    due("none", 0, x.used(0));
    x.pass(1);
    due("of one", 33, x.used(0));
    x.pass(1);
    due("of two", 66, x.used(0));
    x.pass(1);
    due("a full disk", 99, x.used(0));
    x.pass(1);
    due("is not fuller", 99, x.used(0));
    x.setRate(0, 99);
    due("not moved by setting a rate", 99, x.used(0));
    x.pass(1);
    due("all moved", 0, x.used(0));
    x.pass(1);
    due("moved in its own shift", 0, x.used(0));
    BeamOffice y = open(20, 999, 9, 99);
    y.setRate(0, 98);
    y.pass(9);
    due("one unit more than the rate, nine times", 9, y.used(0));
    says(promise, NO_BEAMLINE);
    refusedBeamlines((z, line) -> z.used(line));
    due("the last one that there is", 0, Scene.BUSY.office().used(1));
  }

  private void left() {
    String promise = "Promise 18";
    saysInShort(promise, "Returns how many shifts a proposal has left, as it is kept.");
    for (Scene scene : Scene.values()) {
      BeamOffice x = scene.office();
      for (int i = 0; i < 8; i++) {
        int work = i;
        due("kept is what is found anew in " + scene, Check.outcome(() -> x.leftAnew(work)),
            Check.outcome(() -> x.left(work)));
      }
    }
    says(promise, "Returns the number of shifts, 0 if it is in no queue.");
    dueLeft((x, work) -> x.left(work));
    says(promise, NO_PROPOSAL);
    refusedProposals((x, work) -> x.left(work));
    due("the last one that there is", 8, Scene.BUSY.office().left(4));
  }

  private void leftAnew() {
    String promise = "Promise 19";
    saysInShort(promise, "Returns the same number, found from the panel on, shift by shift.");
    for (int before = 0; before <= 3; before++) {
      BeamOffice x = open(9, 99, 5, 0);
      x.addBeamline(9, 99);
      x.propose(1, 2, 50, 9, 0);
      passAll(x, before);
      x.fail(1);
      due("none before its panel", 0, x.leftAnew(1));
      x.meet(1);
      due("all behind its panel", 9, x.leftAnew(1));
      x.pass(1);
      due("one lost behind it", 8, x.leftAnew(1));
      due("the other's, shift by shift", 5 - before - 1, x.leftAnew(0));
      for (int shift = 1; shift <= 9; shift++) {
        x.pass(1);
        due("the same number", x.left(1), x.leftAnew(1));
        due("shift by shift", Math.max(0, 8 - shift), x.leftAnew(1));
      }
    }
    says(promise, "Returns the number of shifts, 0 if it is in no queue.");
    dueLeft((x, work) -> x.leftAnew(work));
    BeamOffice y = open(40, 999, 9, 9);
    passAll(y, 200);
    due("behind all shifts", 0, y.leftAnew(0));
    says(promise, NO_PROPOSAL);
    refusedProposals((x, work) -> x.leftAnew(work));
    due("the last one that there is", 8, Scene.BUSY.office().leftAnew(4));
  }

  /** The same answers are due from left and from leftAnew. */
  private void dueLeft(NumberAct left) {
    BeamOffice x = office(6, 10);
    x.propose(0, 0, 50, 3, 0);
    x.propose(0, 0, 40, 4, 0);
    x.propose(0, 0, 30, 2, 0);
    x.pass(3);
    for (int work = 0; work < 3; work++) {
      due("before the panel", 0, left.on(x, work));
    }
    x.meet(0);
    int[][] want = {{3, 0, 2}, {2, 0, 2}, {2, 0, 2}, {2, 0, 1}, {1, 0, 1}, {0, 0, 1}, {0, 0, 0},
      {0, 0, 0}};
    boolean[] faults = {false, true, true, false, false, true, false, true};
    for (int i = 0; i < want.length; i++) {
      for (int work = 0; work < 3; work++) {
        due("left of " + work + " behind " + i, want[i][work], left.on(x, work));
      }
      if (faults[i]) {
        x.fail(0);
      }
      x.pass(1);
    }
    for (int wanted = 1; wanted <= 9; wanted++) {
      BeamOffice y = office(9, 10);
      y.propose(0, 0, 0, wanted, 0);
      y.meet(0);
      for (int shift = 0; shift <= 10; shift++) {
        due(wanted + " without " + shift, Math.max(0, wanted - shift), left.on(y, 0));
        y.pass(1);
      }
    }
  }

  private void nextAt() {
    String promise = "Promise 20";
    saysInShort(promise,
        "Returns when the next shift of a proposal begins, if no more shifts are lost.");
    for (int faults = 0; faults <= 3; faults++) {
      dueNext(faults);
    }
    says(promise, "Returns the time, plus the sum of the shifts that those ahead of it in the "
        + "queue have left.");
    BeamOffice x = office(40, 10);
    x.addBeamline(40, 10);
    for (int i = 0; i < 4; i++) {
      x.propose(0, 0, 50, 9, 0);
      x.propose(1, 0, 50, 1, 0);
    }
    x.meet(0);
    x.meet(1);
    for (int i = 0; i < 4; i++) {
      due("nines ahead", 9 * i, x.nextAt(2 * i));
      due("ones ahead", i, x.nextAt(2 * i + 1));
    }
    x.pass(3);
    for (int i = 0; i < 4; i++) {
      due("the time is more by what is less", i == 0 ? 3 : 9 * i, x.nextAt(2 * i));
    }
    due("the last of the other begins now", 3, x.nextAt(7));
    lose(x, 0, 4);
    due("later by those that the reserve made good", 4 + 9, x.nextAt(2));
    lose(x, 0, 1);
    due("and by those that are owed", 5 + 9, x.nextAt(2));
    says(promise, NO_PROPOSAL);
    refusedProposals((y, work) -> y.nextAt(work));
    due("the last one that there is", 5 + 2 + 2 + 3, Scene.BUSY.office().nextAt(4));
    says(promise, "Throws `NoSuchElementException` if it has no shifts left");
    refused("before the panel", NONE, Scene.WRITTEN, y -> y.nextAt(0));
    refused("before the other panel", NONE, Scene.BUSY, y -> y.nextAt(3));
    refused("in no queue", NONE, Scene.FULL, y -> y.nextAt(3));
    BeamOffice z = office(9, 10);
    z.propose(0, 0, 50, 2, 0);
    z.propose(0, 0, 40, 7, 0);
    z.meet(0);
    z.pass(1);
    due("one shift left", 1, z.nextAt(0));
    z.pass(1);
    check.dueThrow("none left", NONE, () -> z.nextAt(0));
    lose(z, 0, 6);
    due("one left behind owed ones", 8, z.nextAt(1));
    lose(z, 0, 1);
    check.dueThrow("all owed", NONE, () -> z.nextAt(1));
  }

  /** Each proposal that has shifts left behind some faults comes on when it was told to. */
  private void dueNext(int faults) {
    BeamOffice x = office(9, 10);
    for (int wanted = 1; wanted <= 3; wanted++) {
      x.propose(0, 0, 50, wanted, 0);
    }
    x.propose(0, 0, 60, 2, 0);
    x.meet(0);
    lose(x, 0, faults);
    int[] next = new int[4];
    for (int work = 0; work < 4; work++) {
      next[work] = x.nextAt(work);
    }
    for (int work : new int[] {3, 0, 1, 2}) {
      while (x.on(0) != work) {
        x.pass(1);
      }
      due("the next of " + work + " behind " + faults + " faults", next[work], x.time());
    }
  }

  private void countKinds() {
    String promise = "Promise 21";
    says(promise,
        "- `kind`: the kind, 'd' done, 'm' missed, 'l' lost while it was on, 'o' owed to it");
    BeamOffice x = open(9, 99, 9, 0);
    x.pass(2);
    x.put(0, 'r');
    x.pass(3);
    lose(x, 0, 1);
    due("done", 2, x.count(0, 'd'));
    due("missed", 3, x.count(0, 'm'));
    due("lost while it was on", 1, x.count(0, 'l'));
    due("owed to it", 1, x.count(0, 'o'));
    says(promise, "Throws `IllegalArgumentException` if there is no such kind");
    for (char kind = 0; kind < 300; kind++) {
      if (kind != 'd' && kind != 'm' && kind != 'l' && kind != 'o') {
        char none = kind;
        check.dueThrow("kind " + (int) kind, RANGE, () -> x.count(0, none));
      }
    }
    for (char kind : new char[] {'c', 'e', 'k', 'n', 'p', 'D', 'M', 'L', 'O', 'q', 'i', 'f', '-',
      (char) ('d' + 256), (char) ('o' + 32768), Character.MAX_VALUE}) {
      refused("kind " + (int) kind, RANGE, Scene.BUSY, y -> y.count(0, kind));
    }
  }

  private void count() {
    String promise = "Promise 21";
    says(promise, "Returns the number of shifts.");
    BeamOffice x = staffed(5, 99);
    x.propose(0, 1, 50, 2, 0);
    x.propose(0, 2, 40, 2, 0);
    x.meet(0);
    dueCounts(x, 0, 0, 0, 0, 0);
    lose(x, 0, 1);
    dueCounts(x, 0, 0, 0, 1, 0);
    dueCounts(x, 1, 0, 0, 0, 0);
    lose(x, 0, 1);
    dueCounts(x, 0, 0, 0, 2, 0);
    dueCounts(x, 1, 0, 0, 0, 1);
    x.pass(1);
    dueCounts(x, 0, 0, 1, 2, 0);
    sample(x, 0);
    sample(x, 1);
    x.pass(1);
    dueCounts(x, 0, 1, 1, 2, 0);
    x.pass(1);
    dueCounts(x, 1, 1, 0, 0, 1);
    lose(x, 0, 3);
    dueCounts(x, 0, 1, 1, 2, 0);
    dueCounts(x, 1, 1, 0, 0, 1);
    says(promise, NO_PROPOSAL);
    refusedProposals((y, work) -> y.count(work, 'd'));
    refusedProposals((y, work) -> y.count(work, 'o'));
    due("the last one that there is", 1, Scene.BUSY.office().count(4, 'o'));
  }

  private void dueCounts(BeamOffice x, int work, int done, int missed, int lost, int owed) {
    due("done of " + work, done, x.count(work, 'd'));
    due("missed of " + work, missed, x.count(work, 'm'));
    due("lost of " + work, lost, x.count(work, 'l'));
    due("owed to " + work, owed, x.count(work, 'o'));
  }

  private void mostOwed() {
    String promise = "Promise 22";
    says(promise, "Returns the user.");
    for (int user = 0; user <= 9; user++) {
      BeamOffice x = office(3, 10);
      x.propose(0, user, 0, 3, 0);
      x.meet(0);
      lose(x, 0, 1);
      due("the only one", user, x.mostOwed());
    }
    says(promise, "Throws `NoSuchElementException` if no shifts are owed");
    refused("none are lost", NONE, Scene.NEW, x -> x.mostOwed());
    refused("none are lost", NONE, Scene.WRITTEN, x -> x.mostOwed());
    refused("all are missed", NONE, Scene.FULL, x -> x.mostOwed());
    BeamOffice x = office(4, 10);
    x.propose(0, 5, 0, 3, 0);
    x.meet(0);
    lose(x, 0, 1);
    check.dueThrow("the reserve made it good", NONE, x::mostOwed);
    lose(x, 0, 1);
    due("one is owed", 5, x.mostOwed());
    x.pass(20);
    due("it stays owed", 5, x.mostOwed());
  }

  private void mostOwedOfSeveral() {
    saysInShort("Promise 22", "Returns the user to whom most shifts are owed, over all proposals of a "
        + "user; of several, the lowest one.");
    BeamOffice x = office(8, 10);
    x.addBeamline(3, 10);
    x.propose(0, 9, 50, 2, 0);
    x.propose(0, 4, 40, 2, 0);
    x.propose(0, 7, 30, 2, 0);
    x.propose(0, 4, 20, 1, 0);
    x.propose(0, 0, 10, 1, 0);
    x.propose(1, 7, 50, 3, 0);
    x.meet(0);
    lose(x, 0, 1);
    due("one of 0", 0, x.mostOwed());
    lose(x, 0, 1);
    due("one of 0 and one of 4", 0, x.mostOwed());
    lose(x, 0, 1);
    due("one of 0, of 4 and of 7", 0, x.mostOwed());
    lose(x, 0, 1);
    due("two of 7", 7, x.mostOwed());
    lose(x, 0, 1);
    due("two of 7, and two of 4 with two proposals", 4, x.mostOwed());
    lose(x, 0, 1);
    due("three of 4", 4, x.mostOwed());
    x.meet(1);
    lose(x, 1, 1);
    due("three of 4, and three of 7 at both beamlines", 4, x.mostOwed());
    lose(x, 1, 1);
    due("four of 7", 7, x.mostOwed());
  }

  private void doneShare() {
    String promise = "Promise 23";
    saysInShort(promise, "Returns the share of the shifts that were done, of all that were done, "
        + "missed or lost.");
    BeamOffice each = open(9, 999, 9, 0);
    each.pass(1);
    due("one done", 1.0f, each.doneShare());
    each.put(0, 'c');
    each.pass(1);
    due("one missed", 0.5f, each.doneShare());
    lose(each, 0, 1);
    due("one lost", 1.0f / 3.0f, each.doneShare());
    each.pass(20);
    due("all the others missed", 1.0f / 9.0f, each.doneShare());
    says(promise, "Returns the number of shifts that were done divided by that of these shifts, "
        + "both converted to float.");
    for (int done = 0; done <= 9; done++) {
      BeamOffice x = open(40, 999, 9, 0);
      for (int shift = 0; shift < done; shift++) {
        x.pass(1);
        due("all were done", 1.0f, x.doneShare());
      }
      x.put(0, 'r');
      passAll(x, 9 - done);
      due(done + " done of 9", (float) done / 9.0f, x.doneShare());
      x.pass(9);
      lose(x, 0, 1);
      due("none more behind the queue", (float) done / 9.0f, x.doneShare());
    }
    BeamOffice y = open(9, 999, 7, 0);
    lose(y, 0, 1);
    due("one lost", 0.0f, y.doneShare());
    y.pass(1);
    due("one lost, one done", 0.5f, y.doneShare());
    lose(y, 0, 2);
    due("an owed one is counted once", 0.25f, y.doneShare());
    y.put(0, 'r');
    y.pass(2);
    due("with two missed", 1.0f / 6.0f, y.doneShare());
    BeamOffice z = open(9, 999, 2, 0);
    z.addBeamline(9, 999);
    z.propose(1, 1, 50, 1, 0);
    z.meet(1);
    z.pass(2);
    due("over both beamlines", 2.0f / 3.0f, z.doneShare());
    says(promise, "Throws `ArithmeticException` if there were none");
    refused("no beamlines", NUMBERS, Scene.NEW, x -> x.doneShare());
    refused("no panel", NUMBERS, Scene.WRITTEN, x -> x.doneShare());
    BeamOffice w = Scene.WRITTEN.office();
    w.pass(20);
    check.dueThrow("no shift of a queue", NUMBERS, w::doneShare);
    w.meet(0);
    check.dueThrow("none behind the panel", NUMBERS, w::doneShare);
    w.pass(1);
    due("one missed", 0.0f, w.doneShare());
    BeamOffice v = office(3, 10);
    v.meet(0);
    lose(v, 0, 3);
    check.dueThrow("faults with none on", NUMBERS, v::doneShare);
  }

  private void meanScore() {
    String promise = "Promise 24";
    saysInShort(promise, "Returns the mean score of all proposals in queues.");
    BeamOffice queues = office(10, 10);
    queues.addBeamline(10, 10);
    queues.propose(0, 0, 90, 9, 0);
    queues.propose(0, 0, 60, 2, 0);
    queues.propose(1, 0, 31, 9, 0);
    queues.meet(0);
    due("the one in a queue", 90.0, queues.meanScore());
    queues.meet(1);
    due("the two in queues", 60.5, queues.meanScore());
    says(promise, "Returns the sum of the scores divided by the number of these proposals, both "
        + "converted to double.");
    BeamOffice x = office(40, 10);
    x.addBeamline(8, 10);
    int[] scores = {100, 99, 0, 1, 50, 33, 77};
    for (int i = 0; i < scores.length; i++) {
      x.propose(i == 5 ? 1 : 0, 0, scores[i], 1, 0);
    }
    x.propose(1, 0, 100, 9, 0);
    x.meet(0);
    due("those of one queue", 327.0 / 6.0, x.meanScore());
    x.meet(1);
    due("those of both, without the one that got none", 360.0 / 7.0, x.meanScore());
    x.pass(20);
    due("those that have run, too", 360.0 / 7.0, x.meanScore());
    BeamOffice least = office(3, 10);
    least.propose(0, 0, 0, 3, 0);
    least.meet(0);
    due("the least", 0.0, least.meanScore());
    BeamOffice most = office(40, 10);
    for (int i = 0; i < 8; i++) {
      most.propose(0, 0, 100, 1, 0);
    }
    most.meet(0);
    due("the most", 100.0, most.meanScore());
    says(promise, "Throws `ArithmeticException` if there are none");
    refused("no proposals", NUMBERS, Scene.NEW, y -> y.meanScore());
    refused("no panel", NUMBERS, Scene.WRITTEN, y -> y.meanScore());
    BeamOffice z = office(8, 10);
    z.propose(0, 0, 50, 9, 0);
    z.meet(0);
    check.dueThrow("none got shifts", NUMBERS, z::meanScore);
    BeamOffice w = office(9, 10);
    w.propose(0, 0, 50, 9, 0);
    w.meet(0);
    due("one got shifts", 50.0, w.meanScore());
  }
}
