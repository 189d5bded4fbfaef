/**
 * Promises 7 to 11: what each call takes, returns and throws, on both sides of each boundary, and
 * that the calls that are refused change nothing.
 */
final class PeopleBoundaries extends Boundaries {
  PeopleBoundaries(Check check, Document document) {
    super(check, document);
  }

  void run() {
    promise7User();
    promise7Returns();
    promise7NoUser();
    promise7Trained();
    promise8User();
    promise8Returns();
    promise8NoUser();
    promise9InPlace();
    promise9Life();
    promise9Returns();
    promise9NoProposal();
    promise9OutOfRange();
    promise10Place();
    promise10NoPlace();
    promise10Returns();
    promise10NoProposal();
    promise10NoSample();
    promise10FullCold();
    promise11Returns();
    promise11NoProposal();
    promise11NoSample();
  }

  private void promise7User() {
    says(7, "- `user`: the user, 0 to 9");
    due("the least", 1, new BeamOffice().train(0));
    due("the most", 1, new BeamOffice().train(9));
    refusedAround(INDEX, Scene.NEW, 0, 9, (x, user) -> x.train(user));
  }

  private void promise7Returns() {
    says(7, "Returns the number of users who are trained.");
    BeamOffice x = new BeamOffice();
    for (int user = 9; user >= 0; user--) {
      int trained = user;
      due("one more", 10 - user, x.train(user));
      check.dueThrow("a refused one", STATE, () -> x.train(trained));
    }
  }

  private void promise7NoUser() {
    says(7, NO_USER);
    refusedUsers((y, user) -> y.train(user));
    due("the last one that there is", 3, Scene.BUSY.office().train(9));
  }

  private void promise7Trained() {
    says(7, "Throws `IllegalStateException` if the user is trained");
    due("not yet", 1, new BeamOffice().train(5));
    for (int user = 0; user <= 9; user++) {
      int trained = user;
      refused("user " + user, STATE, Scene.FULL, y -> y.train(trained));
    }
    refused("user 1", STATE, Scene.BUSY, y -> y.train(1));
    refused("user 2", STATE, Scene.BUSY, y -> y.train(2));
    due("user 3", 3, Scene.BUSY.office().train(3));
  }

  private void promise8User() {
    says(8, "- `user`: the user, 0 to 9");
    due("the least", false, new BeamOffice().setThere(0, true));
    due("the most", false, new BeamOffice().setThere(9, true));
    refusedAround(INDEX, Scene.NEW, 0, 9, (x, user) -> x.setThere(user, true));
    refusedAround(INDEX, Scene.NEW, 0, 9, (x, user) -> x.setThere(user, false));
  }

  private void promise8Returns() {
    says(8, "Returns whether the user was before.");
    boolean[] steps = {false, true, true, false, false, true};
    for (int user = 0; user <= 9; user++) {
      BeamOffice x = new BeamOffice();
      boolean before = false;
      for (boolean step : steps) {
        due("before " + step, before, x.setThere(user, step));
        before = step;
      }
      x.pass(20);
      due("who is there stays", true, x.setThere(user, false));
    }
  }

  private void promise8NoUser() {
    says(8, NO_USER);
    refusedUsers((x, user) -> x.setThere(user, true));
    refusedUsers((x, user) -> x.setThere(user, false));
    due("the last one that there is", true, Scene.FULL.office().setThere(9, true));
  }

  private void promise9InPlace() {
    saysInShort(9, "Brings a sample into the room, in place of one that the proposal has.");
    for (char place : new char[] {'r', 'c', 'b'}) {
      BeamOffice x = office(3, 10);
      x.propose(0, 0, 0, 1, 0);
      x.bring(0, 9);
      x.put(0, place);
      due("in place of one in " + place, 9, x.bring(0, 8));
      due("into the room, from " + place, 'r', x.put(0, place));
      x.pass(1);
      due("it ages where it is, in " + place, place == 'c' ? 8 : 7, x.life(0));
    }
  }

  private void promise9Life() {
    says(9, "- `life`: its life, 1 to 50");
    BeamOffice x = office(3, 10);
    x.propose(0, 0, 0, 1, 0);
    for (int life = 1; life <= 50; life++) {
      due("before " + life, life == 1 ? -1 : life - 1, x.bring(0, life));
      due("the life " + life, life, x.life(0));
    }
    refusedAround(RANGE, Scene.WRITTEN, 1, 50, (y, life) -> y.bring(0, life));
    refusedAround(RANGE, Scene.WRITTEN, 1, 50, (y, life) -> y.bring(1, life));
  }

  private void promise9Returns() {
    says(9, "Returns the life of the sample before, or -1.");
    BeamOffice x = office(3, 10);
    x.propose(0, 0, 0, 1, 0);
    check.dueThrow("a refused one", RANGE, () -> x.bring(0, 51));
    due("none before", -1, x.bring(0, 1));
    due("one before", 1, x.bring(0, 1));
    x.pass(1);
    due("a spoilt one before", 0, x.bring(0, 50));
    x.pass(1);
    due("one that has aged", 49, x.bring(0, 50));
    due("one that has not", 50, x.bring(0, 50));
  }

  private void promise9NoProposal() {
    says(9, NO_PROPOSAL);
    refusedProposals((z, work) -> z.bring(work, 9));
    due("the last one that there is", -1, Scene.FULL.office().bring(7, 9));
  }

  private void promise9OutOfRange() {
    says(9, "Throws `IllegalArgumentException` if the life is out of range");
    due("the least", 30, Scene.BUSY.office().bring(0, 1));
    due("the most", 30, Scene.BUSY.office().bring(0, 50));
    refused("less", RANGE, Scene.BUSY, z -> z.bring(0, 0));
    refused("more", RANGE, Scene.BUSY, z -> z.bring(0, 51));
    refused("more, without one before", RANGE, Scene.BUSY, z -> z.bring(3, 51));
    refused("more, with a spoilt one before", RANGE, Scene.BUSY, z -> z.bring(2, 51));
  }

  private void promise10Place() {
    says(10, "- `place`: the place, 'r' for the room, 'c' for the cold, 'b' for the beamline");
    BeamOffice x = open(20, 10, 9, 0);
    due("the room", 'b', x.put(0, 'r'));
    due("is not the beamline", 's', x.reason(0));
    x.pass(1);
    due("and not cold", 49, x.life(0));
    due("the cold", 'r', x.put(0, 'c'));
    due("is not the beamline", 's', x.reason(0));
    x.pass(1);
    due("but cold", 49, x.life(0));
    due("the beamline", 'c', x.put(0, 'b'));
    due("is the beamline", '-', x.reason(0));
    x.pass(1);
    due("and not cold", 48, x.life(0));
  }

  private void promise10NoPlace() {
    says(10, "Throws `IllegalArgumentException` if there is no such place");
    for (char place = 0; place < 300; place++) {
      if (place != 'r' && place != 'c' && place != 'b') {
        dueNoPlace(place);
      }
    }
    dueNoPlace((char) ('r' + 256));
    dueNoPlace((char) ('c' + 32768));
    dueNoPlace(Character.MAX_VALUE);
    for (char place : new char[] {'a', 'd', 'q', 's', 'B', 'C', 'R', '-'}) {
      refused("place " + place, RANGE, Scene.BUSY, y -> y.put(0, place));
      refused("without a sample, place " + place, RANGE, Scene.BUSY, y -> y.put(3, place));
    }
    for (char place : new char[] {'r', 'c', 'b'}) {
      due("place " + place, 'c', Scene.BUSY.office().put(0, place));
    }
  }

  private void dueNoPlace(char place) {
    BeamOffice x = Scene.BUSY.office();
    check.dueThrow("place " + (int) place, RANGE, () -> x.put(0, place));
    due("stays", 'c', x.put(0, 'c'));
  }

  private void promise10Returns() {
    says(10, "Returns the place before.");
    BeamOffice x = open(20, 10, 9, 0);
    due("the beamline", 'b', x.put(0, 'b'));
    check.dueThrow("a refused one", RANGE, () -> x.put(0, 'x'));
    due("is not the place before", 'b', x.put(0, 'c'));
    due("the cold", 'c', x.put(0, 'c'));
    x.pass(20);
    due("still the cold", 'c', x.put(0, 'r'));
    due("the room", 'r', x.put(0, 'r'));
  }

  private void promise10NoProposal() {
    says(10, NO_PROPOSAL);
    refusedProposals((y, work) -> y.put(work, 'r'));
    refusedProposals((y, work) -> y.put(work, 'c'));
    due("the last one that there is", 'c', Scene.FULL.office().put(6, 'b'));
  }

  private void promise10NoSample() {
    says(10, "Throws `NoSuchElementException` if the proposal has no sample");
    refused("none", NONE, Scene.WRITTEN, y -> y.put(0, 'r'));
    refused("none", NONE, Scene.BUSY, y -> y.put(3, 'b'));
    refused("none", NONE, Scene.BUSY, y -> y.put(4, 'c'));
    refused("none", NONE, Scene.FULL, y -> y.put(7, 'b'));
    due("one", 'b', Scene.WRITTEN.office().put(1, 'r'));
    due("a spoilt one", 'r', Scene.BUSY.office().put(2, 'b'));
  }

  private void promise10FullCold() {
    says(10, "Throws `UnsupportedOperationException` if it is to be put into the cold, is not "
        + "there yet, and 3 samples are there");
    for (int work = 0; work < 4; work++) {
      int other = work;
      refused("not there yet, 3 are there", FULL, Scene.FULL, x -> x.put(other, 'c'));
      due("not into the cold", 'b', Scene.FULL.office().put(work, 'r'));
    }
    for (int work = 4; work < 7; work++) {
      due("there already", 'c', Scene.FULL.office().put(work, 'c'));
      BeamOffice x = Scene.FULL.office();
      x.put(work, 'b');
      due("2 are there", 'b', x.put(0, 'c'));
      int left = work;
      check.dueThrow("3 are there again", FULL, () -> x.put(left, 'c'));
      due("it stayed", 'b', x.put(left, 'r'));
    }
  }

  private void promise11Returns() {
    says(11, "Returns the life, 0 if it is spoilt.");
    BeamOffice x = office(3, 10);
    x.propose(0, 0, 0, 1, 0);
    x.bring(0, 50);
    for (int shift = 0; shift <= 52; shift++) {
      due("behind " + shift, Math.max(0, 50 - shift), x.life(0));
      x.pass(1);
    }
    x.put(0, 'c');
    due("spoilt in the cold", 0, x.life(0));
    x.bring(0, 1);
    x.put(0, 'c');
    x.pass(20);
    due("1 in the cold", 1, x.life(0));
  }

  private void promise11NoProposal() {
    says(11, NO_PROPOSAL);
    refusedProposals((y, work) -> y.life(work));
    due("the last one that has a sample", 18, Scene.FULL.office().life(6));
  }

  private void promise11NoSample() {
    says(11, "Throws `NoSuchElementException` if the proposal has no sample");
    refused("none", NONE, Scene.WRITTEN, y -> y.life(0));
    refused("none", NONE, Scene.BUSY, y -> y.life(3));
    refused("none", NONE, Scene.FULL, y -> y.life(7));
    due("one", 5, Scene.WRITTEN.office().life(1));
    due("a spoilt one", 0, Scene.BUSY.office().life(2));
  }
}
