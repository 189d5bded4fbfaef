/**
 * Promises 18 to 24: what each call takes, returns and throws, on both sides of each boundary, and
 * that the calls that are refused change nothing.
 */
final class CalendarBoundaries extends Boundaries {
  CalendarBoundaries(Check check, Document document) {
    super(check, document);
  }

  void run() {
    promise18AsKept();
    promise18Returns();
    promise18NoProposal();
    promise19FromPanelOn();
    promise19Returns();
    promise19NoProposal();
    promise20IfNoneIsLost();
    promise20Returns();
    promise20NoProposal();
    promise20NoneLeft();
    promise21Kind();
    promise21NoKind();
    promise21Returns();
    promise21NoProposal();
    promise22Returns();
    promise22NoneOwed();
    promise22OverAllProposals();
    promise23Share();
    promise23Returns();
    promise23NoneOfThem();
    promise24Mean();
    promise24Returns();
    promise24NoneInQueues();
  }

  private void promise18AsKept() {
    saysInShort(18, "Returns how many shifts a proposal has left, as it is kept.");
    for (Scene scene : Scene.values()) {
      BeamOffice x = scene.office();
      for (int i = 0; i < 8; i++) {
        int work = i;
        due("kept is what is found anew in " + scene, Check.outcome(() -> x.leftAnew(work)),
            Check.outcome(() -> x.left(work)));
      }
    }
  }

  private void promise18Returns() {
    says(18, "Returns the number of shifts, 0 if it is in no queue.");
    dueLeft((x, work) -> x.left(work));
  }

  private void promise18NoProposal() {
    says(18, NO_PROPOSAL);
    refusedProposals((x, work) -> x.left(work));
    due("the last one that there is", 8, Scene.BUSY.office().left(4));
  }

  private void promise19FromPanelOn() {
    saysInShort(19, "Returns the same number, found from the panel on, shift by shift.");
    for (int before = 0; before <= 3; before++) {
      BeamOffice x = open(9, 99, 5, 0);
      x.addBeamline(9, 99);
      x.propose(1, 2, 50, 9, 0);
      passAll(x, before);
      x.fail(1);
      due("none before its panel", 0, x.leftAnew(1));
      x.meet(1);
      due("all behind its panel", 9, x.leftAnew(1));
      x.pass(1);
      due("one lost behind it", 8, x.leftAnew(1));
      due("the other's, shift by shift", 5 - before - 1, x.leftAnew(0));
      for (int shift = 1; shift <= 9; shift++) {
        x.pass(1);
        due("the same number", x.left(1), x.leftAnew(1));
        due("shift by shift", Math.max(0, 8 - shift), x.leftAnew(1));
      }
    }
  }

  private void promise19Returns() {
    says(19, "Returns the number of shifts, 0 if it is in no queue.");
    dueLeft((z, work) -> z.leftAnew(work));
    BeamOffice x = open(40, 999, 9, 9);
    passAll(x, 200);
    due("behind all shifts", 0, x.leftAnew(0));
  }

  private void promise19NoProposal() {
    says(19, NO_PROPOSAL);
    refusedProposals((x, work) -> x.leftAnew(work));
    due("the last one that there is", 8, Scene.BUSY.office().leftAnew(4));
  }

  /** The same answers are due from left and from leftAnew. */
  private void dueLeft(NumberAct left) {
    BeamOffice x = office(6, 10);
    x.propose(0, 0, 50, 3, 0);
    x.propose(0, 0, 40, 4, 0);
    x.propose(0, 0, 30, 2, 0);
    x.pass(3);
    for (int work = 0; work < 3; work++) {
      due("before the panel", 0, left.on(x, work));
    }
    x.meet(0);
    int[][] want = {{3, 0, 2}, {2, 0, 2}, {2, 0, 2}, {2, 0, 1}, {1, 0, 1}, {0, 0, 1}, {0, 0, 0},
      {0, 0, 0}};
    boolean[] faults = {false, true, true, false, false, true, false, true};
    for (int i = 0; i < want.length; i++) {
      for (int work = 0; work < 3; work++) {
        due("left of " + work + " behind " + i, want[i][work], left.on(x, work));
      }
      if (faults[i]) {
        x.fail(0);
      }
      x.pass(1);
    }
    for (int wanted = 1; wanted <= 9; wanted++) {
      BeamOffice y = office(9, 10);
      y.propose(0, 0, 0, wanted, 0);
      y.meet(0);
      for (int shift = 0; shift <= 10; shift++) {
        due(wanted + " without " + shift, Math.max(0, wanted - shift), left.on(y, 0));
        y.pass(1);
      }
    }
  }

  private void promise20IfNoneIsLost() {
    saysInShort(20,
        "Returns when the next shift of a proposal begins, if no more shifts are lost.");
    for (int faults = 0; faults <= 3; faults++) {
      dueNext(faults);
    }
  }

  private void promise20Returns() {
    says(20, "Returns the time, plus the sum of the shifts that those ahead of it in the "
        + "queue have left.");
    BeamOffice x = office(40, 10);
    x.addBeamline(40, 10);
    for (int i = 0; i < 4; i++) {
      x.propose(0, 0, 50, 9, 0);
      x.propose(1, 0, 50, 1, 0);
    }
    x.meet(0);
    x.meet(1);
    for (int i = 0; i < 4; i++) {
      due("nines ahead", 9 * i, x.nextAt(2 * i));
      due("ones ahead", i, x.nextAt(2 * i + 1));
    }
    x.pass(3);
    for (int i = 0; i < 4; i++) {
      due("the time is more by what is less", i == 0 ? 3 : 9 * i, x.nextAt(2 * i));
    }
    due("the last of the other begins now", 3, x.nextAt(7));
    lose(x, 0, 4);
    due("later by those that the reserve made good", 4 + 9, x.nextAt(2));
    lose(x, 0, 1);
    due("and by those that are owed", 5 + 9, x.nextAt(2));
  }

  private void promise20NoProposal() {
    says(20, NO_PROPOSAL);
    refusedProposals((y, work) -> y.nextAt(work));
    due("the last one that there is", 5 + 2 + 2 + 3, Scene.BUSY.office().nextAt(4));
  }

  private void promise20NoneLeft() {
    says(20, "Throws `NoSuchElementException` if it has no shifts left");
    refused("before the panel", NONE, Scene.WRITTEN, y -> y.nextAt(0));
    refused("before the other panel", NONE, Scene.BUSY, y -> y.nextAt(3));
    refused("in no queue", NONE, Scene.FULL, y -> y.nextAt(3));
    BeamOffice x = office(9, 10);
    x.propose(0, 0, 50, 2, 0);
    x.propose(0, 0, 40, 7, 0);
    x.meet(0);
    x.pass(1);
    due("one shift left", 1, x.nextAt(0));
    x.pass(1);
    check.dueThrow("none left", NONE, () -> x.nextAt(0));
    lose(x, 0, 6);
    due("one left behind owed ones", 8, x.nextAt(1));
    lose(x, 0, 1);
    check.dueThrow("all owed", NONE, () -> x.nextAt(1));
  }

  /** Each proposal that has shifts left behind some faults comes on when it was told to. */
  private void dueNext(int faults) {
    BeamOffice x = office(9, 10);
    for (int wanted = 1; wanted <= 3; wanted++) {
      x.propose(0, 0, 50, wanted, 0);
    }
    x.propose(0, 0, 60, 2, 0);
    x.meet(0);
    lose(x, 0, faults);
    int[] next = new int[4];
    for (int work = 0; work < 4; work++) {
      next[work] = x.nextAt(work);
    }
    for (int work : new int[] {3, 0, 1, 2}) {
      while (x.on(0) != work) {
        x.pass(1);
      }
      due("the next of " + work + " behind " + faults + " faults", next[work], x.time());
    }
  }

  private void promise21Kind() {
    says(21,
        "- `kind`: the kind, 'd' done, 'm' missed, 'l' lost while it was on, 'o' owed to it");
    BeamOffice x = open(9, 99, 9, 0);
    x.pass(2);
    x.put(0, 'r');
    x.pass(3);
    lose(x, 0, 1);
    due("done", 2, x.count(0, 'd'));
    due("missed", 3, x.count(0, 'm'));
    due("lost while it was on", 1, x.count(0, 'l'));
    due("owed to it", 1, x.count(0, 'o'));
  }

  private void promise21NoKind() {
    says(21, "Throws `IllegalArgumentException` if there is no such kind");
    BeamOffice x = Scene.BUSY.office();
    for (char kind = 0; kind < 300; kind++) {
      if (kind != 'd' && kind != 'm' && kind != 'l' && kind != 'o') {
        char none = kind;
        check.dueThrow("kind " + (int) kind, RANGE, () -> x.count(0, none));
      }
    }
    for (char kind : new char[] {'c', 'e', 'k', 'n', 'p', 'D', 'M', 'L', 'O', 'q', 'i', 'f', '-',
      (char) ('d' + 256), (char) ('o' + 32768), Character.MAX_VALUE}) {
      refused("kind " + (int) kind, RANGE, Scene.BUSY, y -> y.count(0, kind));
    }
  }

  private void promise21Returns() {
    says(21, "Returns the number of shifts.");
    BeamOffice x = staffed(5, 99);
    x.propose(0, 1, 50, 2, 0);
    x.propose(0, 2, 40, 2, 0);
    x.meet(0);
    dueCounts(x, 0, 0, 0, 0, 0);
    lose(x, 0, 1);
    dueCounts(x, 0, 0, 0, 1, 0);
    dueCounts(x, 1, 0, 0, 0, 0);
    lose(x, 0, 1);
    dueCounts(x, 0, 0, 0, 2, 0);
    dueCounts(x, 1, 0, 0, 0, 1);
    x.pass(1);
    dueCounts(x, 0, 0, 1, 2, 0);
    sample(x, 0);
    sample(x, 1);
    x.pass(1);
    dueCounts(x, 0, 1, 1, 2, 0);
    x.pass(1);
    dueCounts(x, 1, 1, 0, 0, 1);
    lose(x, 0, 3);
    dueCounts(x, 0, 1, 1, 2, 0);
    dueCounts(x, 1, 1, 0, 0, 1);
  }

  private void promise21NoProposal() {
    says(21, NO_PROPOSAL);
    refusedProposals((y, work) -> y.count(work, 'd'));
    refusedProposals((y, work) -> y.count(work, 'o'));
    due("the last one that there is", 1, Scene.BUSY.office().count(4, 'o'));
  }

  private void dueCounts(BeamOffice x, int work, int done, int missed, int lost, int owed) {
    due("done of " + work, done, x.count(work, 'd'));
    due("missed of " + work, missed, x.count(work, 'm'));
    due("lost of " + work, lost, x.count(work, 'l'));
    due("owed to " + work, owed, x.count(work, 'o'));
  }

  private void promise22Returns() {
    says(22, "Returns the user.");
    for (int user = 0; user <= 9; user++) {
      BeamOffice x = office(3, 10);
      x.propose(0, user, 0, 3, 0);
      x.meet(0);
      lose(x, 0, 1);
      due("the only one", user, x.mostOwed());
    }
  }

  private void promise22NoneOwed() {
    says(22, "Throws `NoSuchElementException` if no shifts are owed");
    refused("none are lost", NONE, Scene.NEW, x -> x.mostOwed());
    refused("none are lost", NONE, Scene.WRITTEN, x -> x.mostOwed());
    refused("all are missed", NONE, Scene.FULL, x -> x.mostOwed());
    BeamOffice x = office(4, 10);
    x.propose(0, 5, 0, 3, 0);
    x.meet(0);
    lose(x, 0, 1);
    check.dueThrow("the reserve made it good", NONE, x::mostOwed);
    lose(x, 0, 1);
    due("one is owed", 5, x.mostOwed());
    x.pass(20);
    due("it stays owed", 5, x.mostOwed());
  }

  private void promise22OverAllProposals() {
    saysInShort(22, "Returns the user to whom most shifts are owed, over all proposals of a "
        + "user; of several, the lowest one.");
    BeamOffice x = office(8, 10);
    x.addBeamline(3, 10);
    x.propose(0, 9, 50, 2, 0);
    x.propose(0, 4, 40, 2, 0);
    x.propose(0, 7, 30, 2, 0);
    x.propose(0, 4, 20, 1, 0);
    x.propose(0, 0, 10, 1, 0);
    x.propose(1, 7, 50, 3, 0);
    x.meet(0);
    lose(x, 0, 1);
    due("one of 0", 0, x.mostOwed());
    lose(x, 0, 1);
    due("one of 0 and one of 4", 0, x.mostOwed());
    lose(x, 0, 1);
    due("one of 0, of 4 and of 7", 0, x.mostOwed());
    lose(x, 0, 1);
    due("two of 7", 7, x.mostOwed());
    lose(x, 0, 1);
    due("two of 7, and two of 4 with two proposals", 4, x.mostOwed());
    lose(x, 0, 1);
    due("three of 4", 4, x.mostOwed());
    x.meet(1);
    lose(x, 1, 1);
    due("three of 4, and three of 7 at both beamlines", 4, x.mostOwed());
    lose(x, 1, 1);
    due("four of 7", 7, x.mostOwed());
  }

  private void promise23Share() {
    saysInShort(23, "Returns the share of the shifts that were done, of all that were done, "
        + "missed or lost.");
    BeamOffice x = open(9, 999, 9, 0);
    x.pass(1);
    due("one done", 1.0f, x.doneShare());
    x.put(0, 'c');
    x.pass(1);
    due("one missed", 0.5f, x.doneShare());
    lose(x, 0, 1);
    due("one lost", 1.0f / 3.0f, x.doneShare());
    x.pass(20);
    due("all the others missed", 1.0f / 9.0f, x.doneShare());
  }

  private void promise23Returns() {
    says(23, "Returns the number of shifts that were done divided by that of these shifts, "
        + "both converted to float.");
    for (int done = 0; done <= 9; done++) {
      BeamOffice x = open(40, 999, 9, 0);
      for (int shift = 0; shift < done; shift++) {
        x.pass(1);
        due("all were done", 1.0f, x.doneShare());
      }
      x.put(0, 'r');
      passAll(x, 9 - done);
      due(done + " done of 9", (float) done / 9.0f, x.doneShare());
      x.pass(9);
      lose(x, 0, 1);
      due("none more behind the queue", (float) done / 9.0f, x.doneShare());
    }
    BeamOffice y = open(9, 999, 7, 0);
    lose(y, 0, 1);
    due("one lost", 0.0f, y.doneShare());
    y.pass(1);
    due("one lost, one done", 0.5f, y.doneShare());
    lose(y, 0, 2);
    due("an owed one is counted once", 0.25f, y.doneShare());
    y.put(0, 'r');
    y.pass(2);
    due("with two missed", 1.0f / 6.0f, y.doneShare());
    BeamOffice z = open(9, 999, 2, 0);
    z.addBeamline(9, 999);
    z.propose(1, 1, 50, 1, 0);
    z.meet(1);
    z.pass(2);
    due("over both beamlines", 2.0f / 3.0f, z.doneShare());
  }

  private void promise23NoneOfThem() {
    says(23, "Throws `ArithmeticException` if there were none");
    refused("no beamlines", NUMBERS, Scene.NEW, z -> z.doneShare());
    refused("no panel", NUMBERS, Scene.WRITTEN, z -> z.doneShare());
    BeamOffice x = Scene.WRITTEN.office();
    x.pass(20);
    check.dueThrow("no shift of a queue", NUMBERS, x::doneShare);
    x.meet(0);
    check.dueThrow("none behind the panel", NUMBERS, x::doneShare);
    x.pass(1);
    due("one missed", 0.0f, x.doneShare());
    BeamOffice y = office(3, 10);
    y.meet(0);
    lose(y, 0, 3);
    check.dueThrow("faults with none on", NUMBERS, y::doneShare);
  }

  private void promise24Mean() {
    saysInShort(24, "Returns the mean score of all proposals in queues.");
    BeamOffice x = office(10, 10);
    x.addBeamline(10, 10);
    x.propose(0, 0, 90, 9, 0);
    x.propose(0, 0, 60, 2, 0);
    x.propose(1, 0, 31, 9, 0);
    x.meet(0);
    due("the one in a queue", 90.0, x.meanScore());
    x.meet(1);
    due("the two in queues", 60.5, x.meanScore());
  }

  private void promise24Returns() {
    says(24, "Returns the sum of the scores divided by the number of these proposals, both "
        + "converted to double.");
    BeamOffice x = office(40, 10);
    x.addBeamline(8, 10);
    int[] scores = {100, 99, 0, 1, 50, 33, 77};
    for (int i = 0; i < scores.length; i++) {
      x.propose(i == 5 ? 1 : 0, 0, scores[i], 1, 0);
    }
    x.propose(1, 0, 100, 9, 0);
    x.meet(0);
    due("those of one queue", 327.0 / 6.0, x.meanScore());
    x.meet(1);
    due("those of both, without the one that got none", 360.0 / 7.0, x.meanScore());
    x.pass(20);
    due("those that have run, too", 360.0 / 7.0, x.meanScore());
    BeamOffice least = office(3, 10);
    least.propose(0, 0, 0, 3, 0);
    least.meet(0);
    due("the least", 0.0, least.meanScore());
    BeamOffice most = office(40, 10);
    for (int i = 0; i < 8; i++) {
      most.propose(0, 0, 100, 1, 0);
    }
    most.meet(0);
    due("the most", 100.0, most.meanScore());
  }

  private void promise24NoneInQueues() {
    says(24, "Throws `ArithmeticException` if there are none");
    refused("no proposals", NUMBERS, Scene.NEW, z -> z.meanScore());
    refused("no panel", NUMBERS, Scene.WRITTEN, z -> z.meanScore());
    BeamOffice x = office(8, 10);
    x.propose(0, 0, 50, 9, 0);
    x.meet(0);
    check.dueThrow("none got shifts", NUMBERS, x::meanScore);
    BeamOffice y = office(9, 10);
    y.propose(0, 0, 50, 9, 0);
    y.meet(0);
    due("one got shifts", 50.0, y.meanScore());
  }
}
