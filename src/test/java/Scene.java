/** Offices to test with: each call of office() makes a new one, that is the same as the last. */
enum Scene {
  /** Nothing is written yet. */
  NEW(0, 0) {
    @Override
    BeamOffice office() {
      return new BeamOffice();
    }
  },

  /** One beamline, two proposals, no panel. */
  WRITTEN(1, 2) {
    @Override
    BeamOffice office() {
      BeamOffice x = new BeamOffice();
      x.addBeamline(10, 50);
      x.propose(0, 1, 50, 3, 20);
      x.propose(0, 2, 60, 2, 10);
      x.setRate(0, 5);
      x.train(2);
      x.setThere(2, true);
      x.bring(1, 5);
      x.put(1, 'b');
      return x;
    }
  },

  /**
   * Two beamlines and five proposals, a panel that has met and one that has not, shifts that were
   * done, missed, lost and made good, samples everywhere, one of them spoilt, data, and a fault.
   */
  BUSY(2, 5) {
    @Override
    BeamOffice office() {
      BeamOffice x = new BeamOffice();
      x.addBeamline(20, 60);
      x.addBeamline(12, 999);
      x.propose(0, 1, 50, 3, 25);
      x.propose(0, 2, 70, 4, 30);
      x.propose(0, 3, 70, 2, 5);
      x.propose(1, 1, 40, 2, 10);
      x.propose(0, 4, 10, 9, 0);
      x.setRate(0, 3);
      x.setRate(1, 2);
      x.train(1);
      x.train(2);
      x.setThere(2, true);
      x.setThere(3, true);
      x.bring(0, 30);
      x.put(0, 'c');
      x.bring(1, 9);
      x.put(1, 'b');
      x.bring(2, 2);
      x.meet(0);
      x.pass(1);
      lose(x, 3);
      x.setThere(2, false);
      x.pass(1);
      x.setThere(2, true);
      x.fail(0);
      return x;
    }
  },

  /** All that there is room for: 2 beamlines, 8 proposals, 3 samples in the cold; 190 shifts. */
  FULL(2, 8) {
    @Override
    BeamOffice office() {
      BeamOffice x = new BeamOffice();
      x.addBeamline(40, 999);
      x.addBeamline(11, 100);
      for (int i = 0; i < 8; i++) {
        x.propose(i % 2, i + 1, 50 + i / 4, 4 + i / 2, 11);
      }
      for (int i = 0; i < 9; i++) {
        x.pass(20);
      }
      x.meet(0);
      for (int user = 0; user < 10; user++) {
        x.train(user);
        x.setThere(user, user != 3);
      }
      for (int work = 0; work < 7; work++) {
        x.bring(work, 12 + work);
        x.put(work, work < 4 ? 'b' : 'c');
      }
      x.pass(9);
      x.meet(1);
      x.pass(1);
      return x;
    }
  };

  final int lines;
  final int works;

  Scene(int lines, int works) {
    this.lines = lines;
    this.works = works;
  }

  abstract BeamOffice office();

  private static void lose(BeamOffice x, int shifts) {
    for (int i = 0; i < shifts; i++) {
      x.fail(0);
      x.pass(1);
    }
  }
}
