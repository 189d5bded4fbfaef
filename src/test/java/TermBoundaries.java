/**
 * The sentences of the section "Terms" up to "Samples", each on both sides of the boundary that it
 * names, and that an object is good up to its very last call.
 */
final class TermBoundaries extends Boundaries {
  private static final String TERMS = "Terms";

  TermBoundaries(Check check, Document document) {
    super(check, document);
  }

  void run() {
    mostCalls();
    looksChangeNothing();
    noShutterWithoutSample();
    beamlines();
    numbersOfBeamline();
    proposals();
    numbersOfProposal();
    panelOnce();
    panelRanks();
    panelAllotsAllOrNone();
    queueAndReserve();
    users();
    oneSample();
    placesOfSample();
    cold();
    spoilt();
  }

  private void mostCalls() {
    says("What it is", "An object is used for at most 512 calls after it has been made; what later "
        + "calls answer is free.");
    BeamOffice x = office(40, 999);
    x.propose(0, 1, 50, 9, 0);
    x.meet(0);
    x.train(1);
    x.setThere(1, true);
    sample(x, 0);
    int before = 0;
    for (int call = 8; call <= 509; call++) {
      due("the call " + call, before, x.setRate(0, call % 100));
      before = call % 100;
    }
    check.dueThrow("the call 510", RANGE, () -> x.pass(21));
    due("the call 511", 1, x.pass(1));
    due("the call 512", 8, x.leftAnew(0));
  }

  private void looksChangeNothing() {
    says(TERMS, "Its calls are those of the office: beamlines, proposals and people are written, "
        + "shifts pass, and all other calls look.");
    for (Scene scene : Scene.values()) {
      for (int way = 0; way < Probe.WAYS; way++) {
        BeamOffice looked = scene.office();
        look(looked);
        look(looked);
        due("looks change nothing in " + scene, "", Probe.difference(way, scene, looked));
      }
    }
  }

  private static void look(BeamOffice x) {
    for (int i = -1; i <= 2; i++) {
      int number = i;
      Check.outcome(() -> x.reserve(number));
      Check.outcome(() -> x.on(number));
      Check.outcome(() -> x.reason(number));
      Check.outcome(() -> x.used(number));
      Check.outcome(() -> x.life(number));
      Check.outcome(() -> x.left(number));
      Check.outcome(() -> x.leftAnew(number));
      Check.outcome(() -> x.nextAt(number));
      Check.outcome(() -> x.count(number, 'o'));
    }
    x.time();
    Check.outcome(x::mostOwed);
    Check.outcome(x::doneShare);
    Check.outcome(x::meanScore);
  }

  private void noShutterWithoutSample() {
    says(TERMS, "No shutter is open for somebody whose sample is not there.");
    BeamOffice x = staffed(20, 999);
    x.propose(0, 1, 50, 9, 0);
    x.propose(0, 1, 40, 9, 0);
    x.meet(0);
    sample(x, 1);
    due("another proposal's sample of the same user is there", 's', x.reason(0));
    due("nothing is done with it", 0, x.pass(1));
    x.bring(0, 50);
    due("its own is in the room", 's', x.reason(0));
    x.put(0, 'c');
    due("its own is in the cold", 's', x.reason(0));
    x.put(0, 'b');
    due("its own is there", '-', x.reason(0));
    x.put(0, 'r');
    due("its own is in the room again", 's', x.reason(0));
    due("nothing is done without it", 0, x.pass(1));
  }

  private void beamlines() {
    says(TERMS, "At most 2 beamlines are numbered from 0.");
    BeamOffice x = new BeamOffice();
    check.dueThrow("none at first", INDEX, () -> x.used(0));
    due("the first", 0, x.addBeamline(3, 10));
    due("it is there", 0, x.used(0));
    check.dueThrow("but no second", INDEX, () -> x.used(1));
    due("the second, with the same numbers", 1, x.addBeamline(3, 10));
    due("it is there", 0, x.used(1));
    check.dueThrow("a third is refused", STATE, () -> x.addBeamline(3, 10));
    check.dueThrow("it is not there", INDEX, () -> x.used(2));
    refused("a third", STATE, Scene.BUSY, y -> y.addBeamline(3, 10));
    refused("a third", STATE, Scene.FULL, y -> y.addBeamline(40, 999));
  }

  private void numbersOfBeamline() {
    says(TERMS, "A beamline has a run of 3 to 40 shifts, a disk with room for 10 to 999 units of "
        + "data, of which none is used at first, and a rate, at first 0, of units that are moved "
        + "away in each shift.");
    BeamOffice x = new BeamOffice();
    x.addBeamline(3, 999);
    x.addBeamline(40, 10);
    x.meet(0);
    x.meet(1);
    due("the shortest run", 3, x.reserve(0));
    due("the longest run", 40, x.reserve(1));
    due("none is used at first", 0, x.used(0));
    due("no rate at first", 0, x.setRate(0, 0));
    refusedAround(RANGE, Scene.NEW, 3, 40, (y, shifts) -> y.addBeamline(shifts, 10));
    refusedAround(RANGE, Scene.WRITTEN, 10, 999, (y, room) -> y.addBeamline(3, room));
    BeamOffice y = open(20, 10, 9, 5);
    y.pass(1);
    due("at the rate 0 nothing is moved", 5, y.used(0));
    y.pass(1);
    due("the disk is full", 10, y.used(0));
    due("and closed", 'd', y.reason(0));
    y.pass(5);
    due("it stays full at the rate 0", 10, y.used(0));
    y.setRate(0, 1);
    y.pass(1);
    due("at the rate 1 one unit is moved", 9, y.used(0));
    y.pass(2);
    due("one in each shift", 7, y.used(0));
  }

  private void proposals() {
    says(TERMS, "At most 8 proposals are numbered from 0.");
    BeamOffice x = office(40, 999);
    x.addBeamline(40, 999);
    check.dueThrow("none at first", INDEX, () -> x.left(0));
    for (int i = 0; i < 8; i++) {
      int number = i;
      due("one more, at either beamline", i, x.propose(i % 2, 0, 0, 1, 0));
      due("it is there", 0, x.left(i));
      check.dueThrow("but no more", INDEX, () -> x.left(number + 1));
    }
    check.dueThrow("a ninth at the first", STATE, () -> x.propose(0, 0, 0, 1, 0));
    check.dueThrow("a ninth at the second", STATE, () -> x.propose(1, 0, 0, 1, 0));
    check.dueThrow("it is not there", INDEX, () -> x.left(8));
    due("the first four", 4, x.meet(0));
    due("the other four", 4, x.meet(1));
  }

  private void numbersOfProposal() {
    says(TERMS, "A proposal has a beamline, a user from 0 to 9, a score from 0 to 100, the shifts "
        + "that it wants, from 1 to 9, and the data of a shift, from 0 to 99.");
    BeamOffice x = staffed(40, 999);
    x.addBeamline(40, 999);
    due("the least numbers", 0, x.propose(0, 0, 0, 1, 0));
    due("the most numbers", 1, x.propose(1, 9, 100, 9, 99));
    x.meet(0);
    due("the score 0", 0.0, x.meanScore());
    x.meet(1);
    due("the score 100", 50.0, x.meanScore());
    due("1 shift", 1, x.left(0));
    due("9 shifts", 9, x.left(1));
    due("the first is on at its beamline", 0, x.on(0));
    due("the second at the other", 1, x.on(1));
    sample(x, 0);
    sample(x, 1);
    due("both are done", 2, x.pass(1));
    due("0 units", 0, x.used(0));
    due("99 units", 99, x.used(1));
    lose(x, 1, 40);
    due("the user 9", 9, x.mostOwed());
    refusedAround(RANGE, Scene.WRITTEN, 0, 9, (y, user) -> y.propose(0, user, 50, 3, 20));
    refusedAround(RANGE, Scene.WRITTEN, 0, 100, (y, score) -> y.propose(0, 1, score, 3, 20));
    refusedAround(RANGE, Scene.WRITTEN, 1, 9, (y, wanted) -> y.propose(0, 1, 50, wanted, 20));
    refusedAround(RANGE, Scene.WRITTEN, 0, 99, (y, data) -> y.propose(0, 1, 50, 3, data));
  }

  private void panelOnce() {
    says(TERMS, "A panel meets once for a beamline; behind it, no more proposals are made for the "
        + "beamline.");
    BeamOffice x = office(10, 99);
    x.addBeamline(10, 99);
    due("a proposal ahead of it", 0, x.propose(0, 0, 0, 1, 0));
    due("one panel for the first", 1, x.meet(0));
    check.dueThrow("a second one", STATE, () -> x.meet(0));
    check.dueThrow("a proposal behind it", STATE, () -> x.propose(0, 0, 0, 1, 0));
    due("a proposal for the other", 1, x.propose(1, 0, 0, 1, 0));
    x.pass(20);
    due("however late", 2, x.propose(1, 0, 0, 1, 0));
    due("one panel for the other", 2, x.meet(1));
    check.dueThrow("a second one for it", STATE, () -> x.meet(1));
    check.dueThrow("a proposal behind that", STATE, () -> x.propose(1, 0, 0, 1, 0));
    refused("a second panel", STATE, Scene.BUSY, y -> y.meet(0));
    refused("a proposal behind the panel", STATE, Scene.BUSY, y -> y.propose(0, 1, 99, 1, 1));
    BeamOffice z = office(3, 10);
    due("a panel without proposals", 0, z.meet(0));
    check.dueThrow("is one, too", STATE, () -> z.meet(0));
    check.dueThrow("and ends the proposals", STATE, () -> z.propose(0, 0, 0, 1, 0));
  }

  private void panelRanks() {
    says(TERMS, "It looks at its proposals by falling scores, those with the same score by rising "
        + "numbers, and allots to each one all shifts that it wants, if as many of the run are "
        + "left, and otherwise none.");
    BeamOffice x = office(40, 99);
    int[] scores = {1, 99, 0, 100, 99, 1, 0, 100};
    for (int score : scores) {
      x.propose(0, 0, score, 1, 0);
    }
    x.meet(0);
    int[] order = {3, 7, 1, 4, 0, 5, 2, 6};
    for (int i = 0; i < order.length; i++) {
      due("the place " + i, order[i], x.on(0));
      due("next of the place " + i, i, x.nextAt(order[i]));
      x.pass(1);
    }
    BeamOffice y = office(8, 99);
    for (int i = 0; i < 8; i++) {
      y.propose(0, 0, 7, 1, 0);
    }
    due("all with the same score", 8, y.meet(0));
    for (int i = 0; i < 8; i++) {
      due("by rising numbers", i, y.nextAt(i));
    }
    BeamOffice z = office(3, 99);
    z.propose(0, 0, 50, 2, 0);
    z.propose(0, 0, 50, 2, 0);
    z.propose(0, 0, 51, 2, 0);
    due("a higher score takes the shifts", 1, z.meet(0));
    due("of the highest", 2, z.left(2));
    due("not of the lower number", 0, z.left(0));
    due("nor of the next", 0, z.left(1));
  }

  private void panelAllotsAllOrNone() {
    says(TERMS, "It looks at its proposals by falling scores, those with the same score by rising "
        + "numbers, and allots to each one all shifts that it wants, if as many of the run are "
        + "left, and otherwise none.");
    for (int run = 3; run <= 12; run++) {
      for (int wanted = 1; wanted <= 9; wanted++) {
        BeamOffice x = office(run, 99);
        x.propose(0, 0, 50, wanted, 0);
        boolean fits = wanted <= run;
        due("wanted " + wanted + " of " + run, fits ? 1 : 0, x.meet(0));
        due("allotted " + wanted + " of " + run, fits ? wanted : 0, x.left(0));
        due("left of " + run + " without " + wanted, fits ? run - wanted : run, x.reserve(0));
      }
    }
    BeamOffice x = office(10, 99);
    x.propose(0, 0, 50, 9, 0);
    x.propose(0, 0, 40, 2, 0);
    x.propose(0, 0, 30, 1, 0);
    x.propose(0, 0, 20, 1, 0);
    due("those behind one that gets none are looked at", 2, x.meet(0));
    due("all but one", 9, x.left(0));
    due("one too many: not even one", 0, x.left(1));
    due("the last one of the run", 1, x.left(2));
    due("none of the run is left", 0, x.left(3));
  }

  private void queueAndReserve() {
    says(TERMS, "The proposals with allotted shifts are the queue, in this order; the shifts of "
        + "the run that are not allotted are the reserve.");
    BeamOffice x = office(40, 99);
    for (int i = 0; i < 8; i++) {
      x.propose(0, 0, 50 + i, 5, 0);
    }
    due("all of them", 8, x.meet(0));
    due("no reserve", 0, x.reserve(0));
    for (int i = 7; i >= 0; i--) {
      due("in this order", i, x.on(0));
      x.pass(5);
    }
    BeamOffice y = office(8, 99);
    y.propose(0, 0, 50, 9, 0);
    due("none of them", 0, y.meet(0));
    due("all is the reserve", 8, y.reserve(0));
    check.dueThrow("none is on", NONE, () -> y.on(0));
    check.dueThrow("none has a mean score", NUMBERS, y::meanScore);
    BeamOffice z = office(10, 99);
    z.propose(0, 0, 50, 9, 0);
    due("one of them", 1, z.meet(0));
    due("one shift is the reserve", 1, z.reserve(0));
  }

  private void users() {
    says(TERMS, "A user is trained or not, and in the hall or not, at first neither.");
    for (int user = 0; user <= 9; user++) {
      BeamOffice x = new BeamOffice();
      due("not in the hall at first", false, x.setThere(user, true));
      due("there", true, x.setThere(user, false));
      due("no more there", false, x.setThere(user, false));
      due("not trained by that", 1, x.train(user));
      due("not there by training", false, x.setThere(user, true));
      int trained = user;
      check.dueThrow("trained", STATE, () -> x.train(trained));
      for (int other = 0; other <= 9; other++) {
        if (other != user) {
          due("others are not there by that", false, x.setThere(other, false));
        }
      }
      due("others are not trained by that", 2, x.train((user + 1) % 10));
    }
  }

  private void oneSample() {
    says(TERMS, "A proposal has at most one sample at a time, with a life from 1 to 50.");
    BeamOffice x = office(40, 99);
    for (int i = 0; i < 8; i++) {
      x.propose(0, 0, 50, 1, 0);
    }
    for (int i = 0; i < 8; i++) {
      int work = i;
      check.dueThrow("none at first", NONE, () -> x.life(work));
      due("none before", -1, x.bring(i, 50));
      due("the longest life", 50, x.life(i));
      due("one before", 50, x.bring(i, 1));
      due("the shortest life", 1, x.life(i));
    }
    refusedAround(RANGE, Scene.WRITTEN, 1, 50, (y, life) -> y.bring(0, life));
    refusedAround(RANGE, Scene.BUSY, 1, 50, (y, life) -> y.bring(0, life));
    refusedAround(RANGE, Scene.BUSY, 1, 50, (y, life) -> y.bring(2, life));
    for (int i = 0; i < 3; i++) {
      x.put(i, 'c');
    }
    x.bring(0, 9);
    due("the one before is gone from the cold", 'r', x.put(3, 'c'));
    check.dueThrow("which is full again", FULL, () -> x.put(0, 'c'));
  }

  private void placesOfSample() {
    says(TERMS, "A sample is in the room, as at first, in the cold, or at the beamline of its "
        + "proposal.");
    BeamOffice x = staffed(20, 99);
    x.addBeamline(20, 99);
    x.propose(1, 1, 50, 9, 0);
    x.propose(0, 1, 50, 9, 0);
    x.meet(0);
    x.meet(1);
    x.bring(0, 50);
    char[] places = {'r', 'c', 'b'};
    char before = 'r';
    for (char from : places) {
      for (char to : places) {
        due("to " + from, before, x.put(0, from));
        due("from " + from + " to " + to, from, x.put(0, to));
        before = to;
      }
    }
    due("at the beamline of its proposal", '-', x.reason(1));
    due("not at the other", 's', x.reason(0));
    x.bring(0, 50);
    due("a new one is in the room", 'r', x.put(0, 'r'));
  }

  private void cold() {
    says(TERMS, "At most 3 samples are in the cold.");
    BeamOffice x = office(40, 99);
    x.addBeamline(40, 99);
    for (int i = 0; i < 6; i++) {
      x.propose(i % 2, 0, 50, 1, 0);
      x.bring(i, 1 + i);
    }
    x.pass(1);
    due("the first, a spoilt one", 'r', x.put(0, 'c'));
    due("the second, of the other beamline", 'r', x.put(1, 'c'));
    due("the third", 'r', x.put(2, 'c'));
    check.dueThrow("a fourth", FULL, () -> x.put(3, 'c'));
    check.dueThrow("a fourth from elsewhere", FULL, () -> x.put(4, 'c'));
    for (int i = 0; i < 3; i++) {
      due("one that is there may stay", 'c', x.put(i, 'c'));
    }
    due("elsewhere there is room", 'r', x.put(3, 'b'));
    due("one leaves", 'c', x.put(1, 'r'));
    due("another comes", 'b', x.put(3, 'c'));
    check.dueThrow("the one that left", FULL, () -> x.put(1, 'c'));
    x.bring(0, 5);
    due("one is replaced, and is in the room", 'r', x.put(4, 'c'));
    check.dueThrow("a fourth again", FULL, () -> x.put(0, 'c'));
    refused("a fourth", FULL, Scene.FULL, y -> y.put(0, 'c'));
  }

  private void spoilt() {
    says(TERMS, "It is spoilt when its life is 0.");
    BeamOffice x = open(20, 99, 9, 0);
    x.bring(0, 2);
    x.put(0, 'b');
    due("done with the life 2", 1, x.pass(1));
    due("the life 1", 1, x.life(0));
    due("not spoilt", '-', x.reason(0));
    due("done with the life 1", 1, x.pass(1));
    due("the life 0", 0, x.life(0));
    due("spoilt", 's', x.reason(0));
    due("not done with the life 0", 0, x.pass(1));
    due("the life stays 0", 0, x.life(0));
    due("the spoilt one before", 0, x.bring(0, 1));
    x.put(0, 'b');
    due("a new one is not spoilt", '-', x.reason(0));
  }
}
