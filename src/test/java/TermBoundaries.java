/**
 * The sentences of the section "Terms", each on both sides of the boundary that it names, and that
 * an object is good up to its very last call.
 */
final class TermBoundaries extends Boundaries {
  private static final String TERMS = "Terms";

  TermBoundaries(Check check, Document document) {
    super(check, document);
  }

  void run() {
    mostCalls();
    looksChangeNothing();
    noShutterWithoutSample();
    beamlines();
    numbersOfBeamline();
    proposals();
    numbersOfProposal();
    panelOnce();
    panelRanks();
    panelAllotsAllOrNone();
    queueAndReserve();
    users();
    oneSample();
    placesOfSample();
    cold();
    spoilt();
    onIsTheFirst();
    firstReason();
    open();
    eachBeamline();
    done();
    lost();
    missed();
    movedAway();
    lives();
    mostShifts();
    throwsChangeNothing();
    firstException();
  }

  private void mostCalls() {
    says("What it is", "An object is used for at most 512 calls after it has been made; what later "
        + "calls answer is free.");
    BeamOffice x = office(40, 999);
    x.propose(0, 1, 50, 9, 0);
    x.meet(0);
    x.train(1);
    x.setThere(1, true);
    sample(x, 0);
    int before = 0;
    for (int call = 8; call <= 509; call++) {
      due("the call " + call, before, x.setRate(0, call % 100));
      before = call % 100;
    }
    check.dueThrow("the call 510", RANGE, () -> x.pass(21));
    due("the call 511", 1, x.pass(1));
    due("the call 512", 8, x.leftAnew(0));
  }

  private void looksChangeNothing() {
    says(TERMS, "Its calls are those of the office: beamlines, proposals and people are written, "
        + "shifts pass, and all other calls look.");
    for (Scene scene : Scene.values()) {
      for (int way = 0; way < Probe.WAYS; way++) {
        BeamOffice looked = scene.office();
        look(looked);
        look(looked);
        due("looks change nothing in " + scene, "",
            Probe.difference(way, scene.office(), looked));
      }
    }
  }

  private static void look(BeamOffice x) {
    for (int i = -1; i <= 2; i++) {
      int number = i;
      Check.outcome(() -> x.reserve(number));
      Check.outcome(() -> x.on(number));
      Check.outcome(() -> x.reason(number));
      Check.outcome(() -> x.used(number));
      Check.outcome(() -> x.life(number));
      Check.outcome(() -> x.left(number));
      Check.outcome(() -> x.leftAnew(number));
      Check.outcome(() -> x.nextAt(number));
      Check.outcome(() -> x.count(number, 'o'));
    }
    x.time();
    Check.outcome(x::mostOwed);
    Check.outcome(x::doneShare);
    Check.outcome(x::meanScore);
  }

  private void noShutterWithoutSample() {
    says(TERMS, "No shutter is open for somebody whose sample is not there.");
    BeamOffice x = staffed(20, 999);
    x.propose(0, 1, 50, 9, 0);
    x.propose(0, 1, 40, 9, 0);
    x.meet(0);
    sample(x, 1);
    due("another proposal's sample of the same user is there", 's', x.reason(0));
    due("nothing is done with it", 0, x.pass(1));
    x.bring(0, 50);
    due("its own is in the room", 's', x.reason(0));
    x.put(0, 'c');
    due("its own is in the cold", 's', x.reason(0));
    x.put(0, 'b');
    due("its own is there", '-', x.reason(0));
    x.put(0, 'r');
    due("its own is in the room again", 's', x.reason(0));
    due("nothing is done without it", 0, x.pass(1));
  }

  private void beamlines() {
    says(TERMS, "At most 2 beamlines are numbered from 0.");
    BeamOffice x = new BeamOffice();
    check.dueThrow("none at first", INDEX, () -> x.used(0));
    due("the first", 0, x.addBeamline(3, 10));
    due("it is there", 0, x.used(0));
    check.dueThrow("but no second", INDEX, () -> x.used(1));
    due("the second, with the same numbers", 1, x.addBeamline(3, 10));
    due("it is there", 0, x.used(1));
    check.dueThrow("a third is refused", STATE, () -> x.addBeamline(3, 10));
    check.dueThrow("it is not there", INDEX, () -> x.used(2));
    refused("a third", STATE, Scene.BUSY, y -> y.addBeamline(3, 10));
    refused("a third", STATE, Scene.FULL, y -> y.addBeamline(40, 999));
  }

  private void numbersOfBeamline() {
    says(TERMS, "A beamline has a run of 3 to 40 shifts, a disk with room for 10 to 999 units of "
        + "data, of which none is used at first, and a rate, at first 0, of units that are moved "
        + "away in each shift.");
    BeamOffice x = new BeamOffice();
    x.addBeamline(3, 999);
    x.addBeamline(40, 10);
    x.meet(0);
    x.meet(1);
    due("the shortest run", 3, x.reserve(0));
    due("the longest run", 40, x.reserve(1));
    due("none is used at first", 0, x.used(0));
    due("no rate at first", 0, x.setRate(0, 0));
    refusedAround(RANGE, Scene.NEW, 3, 40, (y, shifts) -> y.addBeamline(shifts, 10));
    refusedAround(RANGE, Scene.WRITTEN, 10, 999, (y, room) -> y.addBeamline(3, room));
    BeamOffice y = open(20, 10, 9, 5);
    y.pass(1);
    due("at the rate 0 nothing is moved", 5, y.used(0));
    y.pass(1);
    due("the disk is full", 10, y.used(0));
    due("and closed", 'd', y.reason(0));
    y.pass(5);
    due("it stays full at the rate 0", 10, y.used(0));
    y.setRate(0, 1);
    y.pass(1);
    due("at the rate 1 one unit is moved", 9, y.used(0));
    y.pass(2);
    due("one in each shift", 7, y.used(0));
  }

  private void proposals() {
    says(TERMS, "At most 8 proposals are numbered from 0.");
    BeamOffice x = office(40, 999);
    x.addBeamline(40, 999);
    check.dueThrow("none at first", INDEX, () -> x.left(0));
    for (int i = 0; i < 8; i++) {
      int number = i;
      due("one more, at either beamline", i, x.propose(i % 2, 0, 0, 1, 0));
      due("it is there", 0, x.left(i));
      check.dueThrow("but no more", INDEX, () -> x.left(number + 1));
    }
    check.dueThrow("a ninth at the first", STATE, () -> x.propose(0, 0, 0, 1, 0));
    check.dueThrow("a ninth at the second", STATE, () -> x.propose(1, 0, 0, 1, 0));
    check.dueThrow("it is not there", INDEX, () -> x.left(8));
    due("the first four", 4, x.meet(0));
    due("the other four", 4, x.meet(1));
  }

  private void numbersOfProposal() {
    says(TERMS, "A proposal has a beamline, a user from 0 to 9, a score from 0 to 100, the shifts "
        + "that it wants, from 1 to 9, and the data of a shift, from 0 to 99.");
    BeamOffice x = staffed(40, 999);
    x.addBeamline(40, 999);
    due("the least numbers", 0, x.propose(0, 0, 0, 1, 0));
    due("the most numbers", 1, x.propose(1, 9, 100, 9, 99));
    x.meet(0);
    due("the score 0", 0.0, x.meanScore());
    x.meet(1);
    due("the score 100", 50.0, x.meanScore());
    due("1 shift", 1, x.left(0));
    due("9 shifts", 9, x.left(1));
    due("the first is on at its beamline", 0, x.on(0));
    due("the second at the other", 1, x.on(1));
    sample(x, 0);
    sample(x, 1);
    due("both are done", 2, x.pass(1));
    due("0 units", 0, x.used(0));
    due("99 units", 99, x.used(1));
    lose(x, 1, 40);
    due("the user 9", 9, x.mostOwed());
    refusedAround(RANGE, Scene.WRITTEN, 0, 9, (y, user) -> y.propose(0, user, 50, 3, 20));
    refusedAround(RANGE, Scene.WRITTEN, 0, 100, (y, score) -> y.propose(0, 1, score, 3, 20));
    refusedAround(RANGE, Scene.WRITTEN, 1, 9, (y, wanted) -> y.propose(0, 1, 50, wanted, 20));
    refusedAround(RANGE, Scene.WRITTEN, 0, 99, (y, data) -> y.propose(0, 1, 50, 3, data));
  }

  private void panelOnce() {
    says(TERMS, "A panel meets once for a beamline; behind it, no more proposals are made for the "
        + "beamline.");
    BeamOffice x = office(10, 99);
    x.addBeamline(10, 99);
    due("a proposal ahead of it", 0, x.propose(0, 0, 0, 1, 0));
    due("one panel for the first", 1, x.meet(0));
    check.dueThrow("a second one", STATE, () -> x.meet(0));
    check.dueThrow("a proposal behind it", STATE, () -> x.propose(0, 0, 0, 1, 0));
    due("a proposal for the other", 1, x.propose(1, 0, 0, 1, 0));
    x.pass(20);
    due("however late", 2, x.propose(1, 0, 0, 1, 0));
    due("one panel for the other", 2, x.meet(1));
    check.dueThrow("a second one for it", STATE, () -> x.meet(1));
    check.dueThrow("a proposal behind that", STATE, () -> x.propose(1, 0, 0, 1, 0));
    refused("a second panel", STATE, Scene.BUSY, y -> y.meet(0));
    refused("a proposal behind the panel", STATE, Scene.BUSY, y -> y.propose(0, 1, 99, 1, 1));
    BeamOffice z = office(3, 10);
    due("a panel without proposals", 0, z.meet(0));
    check.dueThrow("is one, too", STATE, () -> z.meet(0));
    check.dueThrow("and ends the proposals", STATE, () -> z.propose(0, 0, 0, 1, 0));
  }

  private void panelRanks() {
    says(TERMS, "It looks at its proposals by falling scores, those with the same score by rising "
        + "numbers, and allots to each one all shifts that it wants, if as many of the run are "
        + "left, and otherwise none.");
    BeamOffice x = office(40, 99);
    int[] scores = {1, 99, 0, 100, 99, 1, 0, 100};
    for (int score : scores) {
      x.propose(0, 0, score, 1, 0);
    }
    x.meet(0);
    int[] order = {3, 7, 1, 4, 0, 5, 2, 6};
    for (int i = 0; i < order.length; i++) {
      due("the place " + i, order[i], x.on(0));
      due("next of the place " + i, i, x.nextAt(order[i]));
      x.pass(1);
    }
    BeamOffice y = office(8, 99);
    for (int i = 0; i < 8; i++) {
      y.propose(0, 0, 7, 1, 0);
    }
    due("all with the same score", 8, y.meet(0));
    for (int i = 0; i < 8; i++) {
      due("by rising numbers", i, y.nextAt(i));
    }
    BeamOffice z = office(3, 99);
    z.propose(0, 0, 50, 2, 0);
    z.propose(0, 0, 50, 2, 0);
    z.propose(0, 0, 51, 2, 0);
    due("a higher score takes the shifts", 1, z.meet(0));
    due("of the highest", 2, z.left(2));
    due("not of the lower number", 0, z.left(0));
    due("nor of the next", 0, z.left(1));
  }

  private void panelAllotsAllOrNone() {
    says(TERMS, "It looks at its proposals by falling scores, those with the same score by rising "
        + "numbers, and allots to each one all shifts that it wants, if as many of the run are "
        + "left, and otherwise none.");
    for (int run = 3; run <= 12; run++) {
      for (int wanted = 1; wanted <= 9; wanted++) {
        BeamOffice x = office(run, 99);
        x.propose(0, 0, 50, wanted, 0);
        boolean fits = wanted <= run;
        due("wanted " + wanted + " of " + run, fits ? 1 : 0, x.meet(0));
        due("allotted " + wanted + " of " + run, fits ? wanted : 0, x.left(0));
        due("left of " + run + " without " + wanted, fits ? run - wanted : run, x.reserve(0));
      }
    }
    BeamOffice x = office(10, 99);
    x.propose(0, 0, 50, 9, 0);
    x.propose(0, 0, 40, 2, 0);
    x.propose(0, 0, 30, 1, 0);
    x.propose(0, 0, 20, 1, 0);
    due("those behind one that gets none are looked at", 2, x.meet(0));
    due("all but one", 9, x.left(0));
    due("one too many: not even one", 0, x.left(1));
    due("the last one of the run", 1, x.left(2));
    due("none of the run is left", 0, x.left(3));
  }

  private void queueAndReserve() {
    says(TERMS, "The proposals with allotted shifts are the queue, in this order; the shifts of "
        + "the run that are not allotted are the reserve.");
    BeamOffice x = office(40, 99);
    for (int i = 0; i < 8; i++) {
      x.propose(0, 0, 50 + i, 5, 0);
    }
    due("all of them", 8, x.meet(0));
    due("no reserve", 0, x.reserve(0));
    for (int i = 7; i >= 0; i--) {
      due("in this order", i, x.on(0));
      x.pass(5);
    }
    BeamOffice y = office(8, 99);
    y.propose(0, 0, 50, 9, 0);
    due("none of them", 0, y.meet(0));
    due("all is the reserve", 8, y.reserve(0));
    check.dueThrow("none is on", NONE, () -> y.on(0));
    check.dueThrow("none has a mean score", NUMBERS, y::meanScore);
    BeamOffice z = office(10, 99);
    z.propose(0, 0, 50, 9, 0);
    due("one of them", 1, z.meet(0));
    due("one shift is the reserve", 1, z.reserve(0));
  }

  private void users() {
    says(TERMS, "A user is trained or not, and in the hall or not, at first neither.");
    for (int user = 0; user <= 9; user++) {
      BeamOffice x = new BeamOffice();
      due("not in the hall at first", false, x.setThere(user, true));
      due("there", true, x.setThere(user, false));
      due("no more there", false, x.setThere(user, false));
      due("not trained by that", 1, x.train(user));
      due("not there by training", false, x.setThere(user, true));
      int trained = user;
      check.dueThrow("trained", STATE, () -> x.train(trained));
      for (int other = 0; other <= 9; other++) {
        if (other != user) {
          due("others are not there by that", false, x.setThere(other, false));
        }
      }
      due("others are not trained by that", 2, x.train((user + 1) % 10));
    }
  }

  private void oneSample() {
    says(TERMS, "A proposal has at most one sample at a time, with a life from 1 to 50.");
    BeamOffice x = office(40, 99);
    for (int i = 0; i < 8; i++) {
      x.propose(0, 0, 50, 1, 0);
    }
    for (int i = 0; i < 8; i++) {
      int work = i;
      check.dueThrow("none at first", NONE, () -> x.life(work));
      due("none before", -1, x.bring(i, 50));
      due("the longest life", 50, x.life(i));
      due("one before", 50, x.bring(i, 1));
      due("the shortest life", 1, x.life(i));
    }
    refusedAround(RANGE, Scene.WRITTEN, 1, 50, (y, life) -> y.bring(0, life));
    refusedAround(RANGE, Scene.BUSY, 1, 50, (y, life) -> y.bring(0, life));
    refusedAround(RANGE, Scene.BUSY, 1, 50, (y, life) -> y.bring(2, life));
    for (int i = 0; i < 3; i++) {
      x.put(i, 'c');
    }
    x.bring(0, 9);
    due("the one before is gone from the cold", 'r', x.put(3, 'c'));
    check.dueThrow("which is full again", FULL, () -> x.put(0, 'c'));
  }

  private void placesOfSample() {
    says(TERMS, "A sample is in the room, as at first, in the cold, or at the beamline of its "
        + "proposal.");
    BeamOffice x = staffed(20, 99);
    x.addBeamline(20, 99);
    x.propose(1, 1, 50, 9, 0);
    x.propose(0, 1, 50, 9, 0);
    x.meet(0);
    x.meet(1);
    x.bring(0, 50);
    char[] places = {'r', 'c', 'b'};
    char before = 'r';
    for (char from : places) {
      for (char to : places) {
        due("to " + from, before, x.put(0, from));
        due("from " + from + " to " + to, from, x.put(0, to));
        before = to;
      }
    }
    due("at the beamline of its proposal", '-', x.reason(1));
    due("not at the other", 's', x.reason(0));
    x.bring(0, 50);
    due("a new one is in the room", 'r', x.put(0, 'r'));
  }

  private void cold() {
    says(TERMS, "At most 3 samples are in the cold.");
    BeamOffice x = office(40, 99);
    x.addBeamline(40, 99);
    for (int i = 0; i < 6; i++) {
      x.propose(i % 2, 0, 50, 1, 0);
      x.bring(i, 1 + i);
    }
    x.pass(1);
    due("the first, a spoilt one", 'r', x.put(0, 'c'));
    due("the second, of the other beamline", 'r', x.put(1, 'c'));
    due("the third", 'r', x.put(2, 'c'));
    check.dueThrow("a fourth", FULL, () -> x.put(3, 'c'));
    check.dueThrow("a fourth from elsewhere", FULL, () -> x.put(4, 'c'));
    for (int i = 0; i < 3; i++) {
      due("one that is there may stay", 'c', x.put(i, 'c'));
    }
    due("elsewhere there is room", 'r', x.put(3, 'b'));
    due("one leaves", 'c', x.put(1, 'r'));
    due("another comes", 'b', x.put(3, 'c'));
    check.dueThrow("the one that left", FULL, () -> x.put(1, 'c'));
    x.bring(0, 5);
    due("one is replaced, and is in the room", 'r', x.put(4, 'c'));
    check.dueThrow("a fourth again", FULL, () -> x.put(0, 'c'));
    refused("a fourth", FULL, Scene.FULL, y -> y.put(0, 'c'));
  }

  private void spoilt() {
    says(TERMS, "It is spoilt when its life is 0.");
    BeamOffice x = open(20, 99, 9, 0);
    x.bring(0, 2);
    x.put(0, 'b');
    due("done with the life 2", 1, x.pass(1));
    due("the life 1", 1, x.life(0));
    due("not spoilt", '-', x.reason(0));
    due("done with the life 1", 1, x.pass(1));
    due("the life 0", 0, x.life(0));
    due("spoilt", 's', x.reason(0));
    due("not done with the life 0", 0, x.pass(1));
    due("the life stays 0", 0, x.life(0));
    due("the spoilt one before", 0, x.bring(0, 1));
    x.put(0, 'b');
    due("a new one is not spoilt", '-', x.reason(0));
  }

  private void onIsTheFirst() {
    says(TERMS, "The proposal that is on at a beamline is the first one of its queue that has "
        + "shifts left.");
    BeamOffice x = office(6, 99);
    x.propose(0, 0, 30, 2, 0);
    x.propose(0, 0, 50, 2, 0);
    x.propose(0, 0, 40, 2, 0);
    check.dueThrow("none before the panel", NONE, () -> x.on(0));
    x.meet(0);
    due("the first", 1, x.on(0));
    x.pass(1);
    due("with its last shift", 1, x.on(0));
    x.pass(1);
    due("the second", 2, x.on(0));
    lose(x, 0, 2);
    due("behind it none is left", 0, x.left(0));
    due("still the second", 2, x.on(0));
    x.pass(1);
    due("with its last shift, too", 2, x.on(0));
    x.pass(1);
    check.dueThrow("none has shifts left", NONE, () -> x.on(0));
    BeamOffice y = office(3, 99);
    y.propose(0, 0, 50, 1, 0);
    y.propose(0, 0, 40, 1, 0);
    y.propose(0, 0, 30, 1, 0);
    y.meet(0);
    lose(y, 0, 2);
    due("those behind have none left", 0, y.on(0));
    lose(y, 0, 1);
    check.dueThrow("not even the first", NONE, () -> y.on(0));
  }

  private void firstReason() {
    says(TERMS, "The shutter is closed for the first one of these reasons that applies: 'q' no "
        + "proposal is on; 'f' there is a fault; 't' its user is not trained; 'p' its user is not "
        + "in the hall; 's' its sample is not at the beamline, or is spoilt, or there is none; 'd' "
        + "the disk has no room for the data of a shift.");
    for (int state = 0; state < 2 * 2 * 2 * 2 * 5 * 2; state++) {
      dueReason(state);
    }
    BeamOffice x = open(20, 10, 5, 5);
    due("room for two", '-', x.reason(0));
    x.pass(1);
    due("room for exactly one", '-', x.reason(0));
    x.pass(1);
    due("room for none", 'd', x.reason(0));
    BeamOffice y = staffed(20, 10);
    y.propose(0, 0, 50, 1, 10);
    y.propose(0, 0, 40, 1, 0);
    y.propose(0, 0, 30, 1, 1);
    y.meet(0);
    for (int i = 0; i < 3; i++) {
      sample(y, i);
    }
    due("room for all of it", '-', y.reason(0));
    y.pass(1);
    due("a full disk has room for no data", '-', y.reason(0));
    y.pass(1);
    due("but not for one unit", 'd', y.reason(0));
  }

  /** One of all the states that the reasons look at, told by its digits. */
  private void dueReason(int state) {
    boolean isOn = state % 2 == 0;
    boolean isFault = state / 2 % 2 == 0;
    boolean isTrained = state / 4 % 2 == 0;
    boolean isThere = state / 8 % 2 == 0;
    int sample = state / 16 % 5;
    boolean isRoom = state / 80 == 0;
    BeamOffice x = office(20, 10);
    x.propose(0, 4, 50, isOn ? 5 : 1, isRoom ? 10 : 11);
    x.meet(0);
    if (sample > 0) {
      x.bring(0, sample == 1 ? 1 : 9);
      x.put(0, "bbrcb".charAt(sample));
    }
    x.pass(1);
    if (isFault) {
      x.fail(0);
    }
    if (isTrained) {
      x.train(4);
    }
    x.setThere(4, isThere);
    boolean isSample = sample == 4;
    char want = !isOn ? 'q' : isFault ? 'f' : !isTrained ? 't' : !isThere ? 'p'
        : !isSample ? 's' : !isRoom ? 'd' : '-';
    due("on " + isOn + ", fault " + isFault + ", trained " + isTrained + ", there " + isThere
        + ", sample " + sample + ", room " + isRoom, want, x.reason(0));
  }

  private void open() {
    says(TERMS, "If none applies, it is open.");
    BeamOffice x = staffed(3, 10);
    x.propose(0, 9, 0, 3, 10);
    x.meet(0);
    x.bring(0, 1);
    x.put(0, 'b');
    due("with nothing to spare", '-', x.reason(0));
    due("it is done", 1, x.pass(1));
    BeamOffice y = open(40, 999, 9, 0);
    due("with much to spare", '-', y.reason(0));
    y.fail(0);
    due("one reason is enough", 'f', y.reason(0));
    y.pass(1);
    due("and gone", '-', y.reason(0));
  }

  private void eachBeamline() {
    says(TERMS, "When a shift passes, this happens at each beamline, in ascending order.");
    BeamOffice x = staffed(5, 99);
    x.pass(1);
    x.addBeamline(5, 99);
    x.propose(1, 1, 50, 3, 7);
    x.propose(0, 1, 50, 2, 5);
    x.meet(0);
    x.meet(1);
    sample(x, 0);
    sample(x, 1);
    due("two at once", 2, x.pass(1));
    due("the first", 1, x.left(1));
    due("the second", 2, x.left(0));
    x.fail(0);
    due("one of them is lost", 1, x.pass(1));
    due("from its own reserve", 2, x.reserve(0));
    due("not from the other's", 2, x.reserve(1));
    due("the fault is gone, one shift each", 2, x.pass(1));
    due("none is on any more", 0, x.pass(1));
    due("5 units twice", 10, x.used(0));
    due("7 units three times", 21, x.used(1));
    due("one time for both", 5, x.time());
  }

  private void done() {
    says(TERMS, "If the shutter is open, the shift is done: the proposal that is on has one shift "
        + "less left, and its data is on the disk.");
    BeamOffice x = staffed(5, 99);
    x.propose(0, 1, 50, 1, 99);
    x.propose(0, 2, 40, 1, 0);
    x.meet(0);
    sample(x, 0);
    sample(x, 1);
    due("the only shift", 1, x.pass(1));
    due("none left", 0, x.left(0));
    due("the other has its own", 1, x.left(1));
    due("as much data as there is room", 99, x.used(0));
    due("one done", 1, x.count(0, 'd'));
    due("none of the other", 0, x.count(1, 'd'));
    due("the other's", 1, x.pass(1));
    due("without data", 99, x.used(0));
    due("none is on", 0, x.pass(1));
    due("nothing is done twice", 1, x.count(0, 'd'));
    due("the reserve stays", 3, x.reserve(0));
    BeamOffice y = open(5, 99, 2, 50);
    due("two wanted, but room for one", 1, y.pass(2));
    due("one done", 1, y.count(0, 'd'));
    due("the data of one", 50, y.used(0));
  }

  private void lost() {
    says(TERMS, "If it is closed for a fault, the shift is lost: if the reserve is not 0, it "
        + "becomes less by 1; otherwise, the last proposal of the queue that has shifts left has "
        + "one less, and it is owed one.");
    BeamOffice x = office(7, 99);
    x.propose(0, 1, 50, 2, 0);
    x.propose(0, 2, 40, 1, 0);
    x.propose(0, 3, 30, 2, 0);
    x.meet(0);
    int[][] want = {{1, 2, 1, 2, 0, 0, 0}, {0, 2, 1, 2, 0, 0, 0}, {0, 2, 1, 1, 0, 0, 1},
      {0, 2, 1, 0, 0, 0, 2}, {0, 2, 0, 0, 0, 1, 2}, {0, 1, 0, 0, 1, 1, 2},
      {0, 0, 0, 0, 2, 1, 2}, {0, 0, 0, 0, 2, 1, 2}};
    for (int i = 0; i < want.length; i++) {
      x.fail(0);
      due("nothing is done", 0, x.pass(1));
      due("the reserve behind " + i, want[i][0], x.reserve(0));
      for (int work = 0; work < 3; work++) {
        due("left of " + work + " behind " + i, want[i][1 + work], x.left(work));
        due("owed to " + work + " behind " + i, want[i][4 + work], x.count(work, 'o'));
      }
      due("lost behind " + i, Math.min(i + 1, 7), x.count(0, 'l'));
    }
    due("none is missed", 0, x.count(0, 'm'));
    due("none is lost of the others", 0, x.count(1, 'l') + x.count(2, 'l'));
    BeamOffice y = office(7, 99);
    y.propose(0, 1, 50, 4, 0);
    y.meet(0);
    lose(y, 0, 3);
    due("the last of the reserve", 0, y.reserve(0));
    due("nothing is owed yet", 0, y.count(0, 'o'));
    due("all are left", 4, y.left(0));
    lose(y, 0, 1);
    due("the reserve stays 0", 0, y.reserve(0));
    due("then it is owed", 1, y.count(0, 'o'));
    due("one less is left", 3, y.left(0));
  }

  private void missed() {
    says(TERMS, "If it is closed for another reason than 'q' and 'f', the shift is missed: the "
        + "proposal that is on has one less left.");
    BeamOffice x = office(20, 10);
    x.propose(0, 1, 50, 6, 11);
    x.propose(0, 1, 40, 6, 0);
    x.meet(0);
    String reasons = "tpssd";
    for (int i = 0; i < reasons.length(); i++) {
      due("the reason", reasons.charAt(i), x.reason(0));
      due("nothing is done", 0, x.pass(1));
      due("one less left", 5 - i, x.left(0));
      due("one more missed", 1 + i, x.count(0, 'm'));
      toNextReason(x, i);
    }
    due("with a fault it is not missed", 'f', x.reason(0));
    x.pass(1);
    due("the shift is left", 1, x.left(0));
    due("none more missed", 5, x.count(0, 'm'));
    x.pass(1);
    due("the last shift", 0, x.left(0));
    due("the last one missed", 6, x.count(0, 'm'));
    due("the other is as it was", 6, x.left(1));
    x.pass(6);
    due("and missed, each one", 6, x.count(1, 'm'));
    x.pass(3);
    due("without one that is on, nothing is missed", 6, x.count(1, 'm'));
    due("nor from the reserve", 7, x.reserve(0));
  }

  private static void toNextReason(BeamOffice x, int passed) {
    if (passed == 0) {
      x.train(1);
    } else if (passed == 1) {
      x.setThere(1, true);
    } else if (passed == 2) {
      x.bring(0, 50);
    } else if (passed == 3) {
      x.put(0, 'b');
    } else {
      x.fail(0);
    }
  }

  private void movedAway() {
    says(TERMS, "Then as much data is moved away as the rate tells, or all that is there, and "
        + "there is no fault any more.");
    for (int rate = 0; rate <= 99; rate++) {
      BeamOffice x = open(20, 200, 1, 50);
      x.setRate(0, rate);
      x.pass(1);
      due("50 units at the rate " + rate, Math.max(0, 50 - rate), x.used(0));
      x.pass(1);
      due("twice at the rate " + rate, Math.max(0, 50 - 2 * rate), x.used(0));
    }
    BeamOffice x = open(20, 20, 9, 20);
    x.setRate(0, 19);
    due("a full disk at first", 1, x.pass(1));
    due("all but one is moved", 1, x.used(0));
    due("behind the shift, not ahead of it", 0, x.pass(1));
    due("the last one is moved", 0, x.used(0));
    due("then there is room", 1, x.pass(1));
    BeamOffice y = open(20, 99, 9, 0);
    y.addBeamline(20, 99);
    y.fail(0);
    y.fail(1);
    check.dueThrow("a fault before", STATE, () -> y.fail(0));
    y.pass(1);
    due("none behind", '-', y.reason(0));
    due("none at the first", true, y.fail(0));
    due("none at the second", false, y.fail(1));
  }

  private void lives() {
    says(TERMS, "Behind all beamlines, the life of each sample that is not in the cold and not "
        + "spoilt becomes less by 1, and the time increases by 1.");
    BeamOffice x = staffed(20, 99);
    x.addBeamline(20, 99);
    for (int i = 0; i < 4; i++) {
      x.propose(i / 2, i, 50, 1, 0);
      x.bring(i, 1);
    }
    x.meet(0);
    x.meet(1);
    x.put(0, 'b');
    x.put(2, 'b');
    x.put(3, 'c');
    due("done at both with the life 1", 2, x.pass(1));
    due("at the first beamline", 0, x.life(0));
    due("in the room", 0, x.life(1));
    due("at the second beamline", 0, x.life(2));
    due("in the cold", 1, x.life(3));
    due("the time 1", 1, x.time());
    x.pass(20);
    due("spoilt ones stay at 0", 0, x.life(0) + x.life(1) + x.life(2));
    due("in the cold however long", 1, x.life(3));
    due("the time 21", 21, x.time());
    x.put(3, 'r');
    due("not by being put", 1, x.life(3));
    x.pass(1);
    due("out of the cold", 0, x.life(3));
    BeamOffice y = office(3, 10);
    y.propose(0, 0, 0, 1, 0);
    y.bring(0, 50);
    y.pass(20);
    y.pass(20);
    y.pass(9);
    due("one of 50 is left", 1, y.life(0));
    y.pass(1);
    due("none of 50 is left", 0, y.life(0));
  }

  private void mostShifts() {
    says(TERMS, "At most 200 shifts pass.");
    BeamOffice x = new BeamOffice();
    passAll(x, 199);
    check.dueThrow("two more", STATE, () -> x.pass(2));
    due("none of them passed", 199, x.time());
    due("one more", 0, x.pass(1));
    due("200", 200, x.time());
    check.dueThrow("no more", STATE, () -> x.pass(1));
    check.dueThrow("not many more", STATE, () -> x.pass(20));
    due("still 200", 200, x.time());
    BeamOffice y = open(40, 999, 9, 9);
    passAll(y, 180);
    due("twenty up to 200", 0, y.pass(20));
    due("as it is kept", 0, y.left(0));
    due("all of it anew", 0, y.leftAnew(0));
    BeamOffice z = staffed(40, 999);
    z.propose(0, 1, 50, 9, 9);
    passAll(z, 181);
    z.meet(0);
    sample(z, 0);
    check.dueThrow("twenty beyond 200", STATE, () -> z.pass(20));
    due("the last 19 run", 9, z.pass(19));
    due("anew up to the end", 0, z.leftAnew(0));
    refused("11 behind 190", STATE, Scene.FULL, v -> v.pass(11));
    refused("20 behind 190", STATE, Scene.FULL, v -> v.pass(20));
  }

  private void throwsChangeNothing() {
    says(TERMS, "A method that throws an exception changes nothing.");
    refusedAlways("a beamline without a run", RANGE, x -> x.addBeamline(0, 100));
    refusedAlways("a rate of no beamline", INDEX, x -> x.setRate(2, 9));
    refusedAlways("a proposal for no beamline", INDEX, x -> x.propose(2, 1, 1, 1, 1));
    refusedAlways("a panel for no beamline", INDEX, x -> x.meet(2));
    refusedAlways("training of nobody", INDEX, x -> x.train(10));
    refusedAlways("nobody comes", INDEX, x -> x.setThere(10, true));
    refusedAlways("a sample for no proposal", INDEX, x -> x.bring(8, 9));
    refusedAlways("a sample of no proposal", INDEX, x -> x.put(8, 'b'));
    refusedAlways("a fault at no beamline", INDEX, x -> x.fail(2));
    refusedAlways("no shifts", RANGE, x -> x.pass(0));
    BeamOffice x = Scene.BUSY.office();
    for (int i = 0; i < 8; i++) {
      check.dueThrow("again and again", STATE, () -> x.meet(0));
      check.dueThrow("again and again", STATE, () -> x.fail(0));
      check.dueThrow("again and again", RANGE, () -> x.pass(21));
    }
    due("many refused calls change nothing", "",
        Probe.difference(0, Scene.BUSY.office(), x));
  }

  private void firstException() {
    says(TERMS, "If several exceptions apply, the one that is documented first is thrown.");
    refused("addBeamline: run, third", RANGE, Scene.BUSY, x -> x.addBeamline(2, 10));
    refused("addBeamline: room, third", RANGE, Scene.BUSY, x -> x.addBeamline(3, 1000));
    refused("setRate: beamline, rate", INDEX, Scene.BUSY, x -> x.setRate(2, 100));
    refused("setRate: beamline, rate", INDEX, Scene.NEW, x -> x.setRate(0, -1));
    int[][] wrong = {{10, 50, 3, 20}, {1, 101, 3, 20}, {1, 50, 10, 20}, {1, 50, 3, 100},
      {-1, -1, 0, -1}};
    for (int[] w : wrong) {
      String which = "propose " + w[0] + " " + w[1] + " " + w[2] + " " + w[3];
      refused(which + ": beamline, numbers", INDEX, Scene.BUSY,
          x -> x.propose(2, w[0], w[1], w[2], w[3]));
      refused(which + ": beamline, numbers, ninth", INDEX, Scene.FULL,
          x -> x.propose(-1, w[0], w[1], w[2], w[3]));
      refused(which + ": numbers, panel", RANGE, Scene.BUSY,
          x -> x.propose(0, w[0], w[1], w[2], w[3]));
      refused(which + ": numbers, panel, ninth", RANGE, Scene.FULL,
          x -> x.propose(0, w[0], w[1], w[2], w[3]));
    }
    refused("propose: beamline, ninth", INDEX, Scene.FULL, x -> x.propose(2, 1, 50, 3, 20));
    refused("bring: proposal, life", INDEX, Scene.BUSY, x -> x.bring(5, 0));
    refused("bring: proposal, life", INDEX, Scene.NEW, x -> x.bring(0, 51));
    refused("put: proposal, place", INDEX, Scene.BUSY, x -> x.put(5, 'x'));
    refused("put: proposal, full cold", INDEX, Scene.FULL, x -> x.put(8, 'c'));
    refused("put: place, no sample", RANGE, Scene.BUSY, x -> x.put(3, 'x'));
    refused("put: place, no sample, full cold", RANGE, Scene.FULL, x -> x.put(7, 'C'));
    refused("put: no sample, full cold", NONE, Scene.FULL, x -> x.put(7, 'c'));
    refused("pass: number, 200", RANGE, Scene.FULL, x -> x.pass(21));
    refused("pass: number, 200", RANGE, Scene.FULL, x -> x.pass(Integer.MAX_VALUE));
    refused("pass: number", RANGE, Scene.FULL, x -> x.pass(0));
    refused("count: proposal, kind", INDEX, Scene.BUSY, x -> x.count(5, 'x'));
    refused("count: proposal, kind", INDEX, Scene.NEW, x -> x.count(0, 'x'));
  }
}
