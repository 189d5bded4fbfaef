import java.util.ArrayList;
import java.util.NoSuchElementException;

/**
 * The user office of an accelerator's hall: proposals that are ranked by a panel, shifts that run
 * one after the other, shutters that open for trained people who are there with their samples,
 * samples that age where it is not cold, data that has to be moved away, and lost shifts that are
 * made good. What each call promises stands in the document, under the call's name; the checks of
 * a call stand in the document's order, since the exception that is documented first is thrown.
 */
public final class BeamOffice {
  private static final int MOST_BEAMLINES = 2;
  private static final int MOST_PROPOSALS = 8;
  private static final int USERS = 10;
  private static final int LEAST_RUN = 3;
  private static final int MOST_RUN = 40;
  private static final int LEAST_ROOM = 10;
  private static final int MOST_ROOM = 999;
  private static final int MOST_RATE = 99;
  private static final int MOST_SCORE = 100;
  private static final int MOST_WANTED = 9;
  private static final int MOST_DATA = 99;
  private static final int MOST_LIFE = 50;
  private static final int MOST_IN_COLD = 3;
  private static final int MOST_AT_ONCE = 20;
  private static final int MOST_SHIFTS = 200;

  private static final int NO_PLACE = -1;
  private static final int NO_SAMPLE = -1;

  private static final char IN_ROOM = 'r';
  private static final char IN_COLD = 'c';
  private static final char AT_BEAMLINE = 'b';

  private static final char OPEN = '-';
  private static final char NONE_ON = 'q';
  private static final char FAULT = 'f';
  private static final char NOT_TRAINED = 't';
  private static final char NOT_PRESENT = 'p';
  private static final char NO_GOOD_SAMPLE = 's';
  private static final char DISK_FULL = 'd';

  private static final char DONE = 'd';
  private static final char MISSED = 'm';
  private static final char LOST = 'l';
  private static final char OWED = 'o';
  private static final char IDLE = 'i';

  private final ArrayList<Beamline> beamlines = new ArrayList<>();
  private final ArrayList<Proposal> proposals = new ArrayList<>();
  private final boolean[] trained = new boolean[USERS];
  private final boolean[] there = new boolean[USERS];
  private int time = 0;

  public BeamOffice() {
  }

  // ---- beamlines and proposals

  public int addBeamline(int shifts, int room)
      throws IllegalArgumentException, IllegalStateException {
    if (!isWithin(shifts, LEAST_RUN, MOST_RUN)) {
      throw new IllegalArgumentException("the run is out of range");
    }
    if (!isWithin(room, LEAST_ROOM, MOST_ROOM)) {
      throw new IllegalArgumentException("the room is out of range");
    }
    if (beamlines.size() >= MOST_BEAMLINES) {
      throw new IllegalStateException("no more beamlines");
    }
    beamlines.add(new Beamline(shifts, room));
    return beamlines.size() - 1;
  }

  public int setRate(int beamline, int units)
      throws IndexOutOfBoundsException, IllegalArgumentException {
    Beamline line = beamlineNumbered(beamline);
    if (!isWithin(units, 0, MOST_RATE)) {
      throw new IllegalArgumentException("the rate is out of range");
    }
    int before = line.rate;
    line.rate = units;
    return before;
  }

  public int propose(int beamline, int user, int score, int wanted, int data)
      throws IndexOutOfBoundsException, IllegalArgumentException, IllegalStateException {
    Beamline line = beamlineNumbered(beamline);
    if (!isWithin(user, 0, USERS - 1)) {
      throw new IllegalArgumentException("the user is out of range");
    }
    if (!isWithin(score, 0, MOST_SCORE)) {
      throw new IllegalArgumentException("the score is out of range");
    }
    if (!isWithin(wanted, 1, MOST_WANTED)) {
      throw new IllegalArgumentException("the wanted shifts are out of range");
    }
    if (!isWithin(data, 0, MOST_DATA)) {
      throw new IllegalArgumentException("the data is out of range");
    }
    if (line.met) {
      throw new IllegalStateException("the panel has met");
    }
    if (proposals.size() >= MOST_PROPOSALS) {
      throw new IllegalStateException("no more proposals");
    }
    int number = proposals.size();
    proposals.add(new Proposal(number, line, user, score, wanted, data));
    return number;
  }

  public int meet(int beamline) throws IndexOutOfBoundsException, IllegalStateException {
    Beamline line = beamlineNumbered(beamline);
    if (line.met) {
      throw new IllegalStateException("the panel has met");
    }
    line.met = true;
    for (int score = MOST_SCORE; score >= 0; score--) {
      allotAtScore(line, score);
    }
    return line.queue.size();
  }

  public int reserve(int beamline) throws IndexOutOfBoundsException, IllegalStateException {
    Beamline line = beamlineNumbered(beamline);
    if (!line.met) {
      throw new IllegalStateException("the panel has not met");
    }
    return line.kept.reserve;
  }

  // ---- people and samples

  public int train(int user) throws IndexOutOfBoundsException, IllegalStateException {
    if (user < 0 || user >= trained.length) {
      throw new IndexOutOfBoundsException("no such user");
    }
    if (trained[user]) {
      throw new IllegalStateException("the user is trained");
    }
    trained[user] = true;
    int sum = 0;
    for (boolean isTrained : trained) {
      if (isTrained) {
        sum++;
      }
    }
    return sum;
  }

  public boolean setThere(int user, boolean isThere) throws IndexOutOfBoundsException {
    if (user < 0 || user >= there.length) {
      throw new IndexOutOfBoundsException("no such user");
    }
    boolean before = there[user];
    there[user] = isThere;
    return before;
  }

  public int bring(int proposal, int life)
      throws IndexOutOfBoundsException, IllegalArgumentException {
    Proposal owner = proposalNumbered(proposal);
    if (!isWithin(life, 1, MOST_LIFE)) {
      throw new IllegalArgumentException("the life is out of range");
    }
    int before = owner.sampleLife;
    owner.sampleLife = life;
    owner.samplePlace = IN_ROOM;
    return before;
  }

  public char put(int proposal, char place)
      throws IndexOutOfBoundsException, IllegalArgumentException, NoSuchElementException,
          UnsupportedOperationException {
    Proposal owner = proposalNumbered(proposal);
    if (place != IN_ROOM && place != IN_COLD && place != AT_BEAMLINE) {
      throw new IllegalArgumentException("no such place");
    }
    if (!owner.hasSample()) {
      throw new NoSuchElementException("no sample");
    }
    if (place == IN_COLD && !owner.isCold() && countCold() >= MOST_IN_COLD) {
      throw new UnsupportedOperationException("the cold is full");
    }
    char before = owner.samplePlace;
    owner.samplePlace = place;
    return before;
  }

  public int life(int proposal) throws IndexOutOfBoundsException, NoSuchElementException {
    Proposal owner = proposalNumbered(proposal);
    if (!owner.hasSample()) {
      throw new NoSuchElementException("no sample");
    }
    return owner.sampleLife;
  }

  // ---- shutters and shifts

  public int on(int beamline) throws IndexOutOfBoundsException, NoSuchElementException {
    Proposal current = beamlineNumbered(beamline).current();
    if (current == null) {
      throw new NoSuchElementException("no proposal is on");
    }
    return current.number;
  }

  public char reason(int beamline) throws IndexOutOfBoundsException {
    return reasonAt(beamlineNumbered(beamline));
  }

  public boolean fail(int beamline) throws IndexOutOfBoundsException, IllegalStateException {
    Beamline line = beamlineNumbered(beamline);
    if (line.fault) {
      throw new IllegalStateException("there is a fault");
    }
    line.fault = true;
    return line.current() != null;
  }

  public int pass(int shifts) throws IllegalArgumentException, IllegalStateException {
    if (!isWithin(shifts, 1, MOST_AT_ONCE)) {
      throw new IllegalArgumentException("the shifts are out of range");
    }
    if (shifts > MOST_SHIFTS - time) {
      throw new IllegalStateException("too many shifts would have passed");
    }
    int done = 0;
    for (int i = 0; i < shifts; i++) {
      done += passOne();
    }
    return done;
  }

  public int time() {
    return time;
  }

  public int used(int beamline) throws IndexOutOfBoundsException {
    return beamlineNumbered(beamline).used;
  }

  // ---- the calendar

  public int left(int proposal) throws IndexOutOfBoundsException {
    return leftKept(proposalNumbered(proposal));
  }

  public int leftAnew(int proposal) throws IndexOutOfBoundsException {
    Proposal asked = proposalNumbered(proposal);
    asked.line.replay();
    return asked.line.anew.leftAt(asked.queuePlace);
  }

  public int nextAt(int proposal) throws IndexOutOfBoundsException, NoSuchElementException {
    Proposal asked = proposalNumbered(proposal);
    if (leftKept(asked) == 0) {
      throw new NoSuchElementException("no shifts left");
    }
    return time + asked.line.kept.leftAheadOf(asked.queuePlace);
  }

  public int count(int proposal, char kind)
      throws IndexOutOfBoundsException, IllegalArgumentException {
    Proposal asked = proposalNumbered(proposal);
    if (kind == DONE) {
      return asked.done;
    }
    if (kind == MISSED) {
      return asked.missed;
    }
    if (kind == LOST) {
      return asked.lost;
    }
    if (kind == OWED) {
      return asked.owed;
    }
    throw new IllegalArgumentException("no such kind");
  }

  public int mostOwed() throws NoSuchElementException {
    int most = 0;
    int found = -1;
    for (int user = 0; user < USERS; user++) {
      int owed = owedTo(user);
      if (owed > most) {
        most = owed;
        found = user;
      }
    }
    if (found < 0) {
      throw new NoSuchElementException("no shifts are owed");
    }
    return found;
  }

  public float doneShare() throws ArithmeticException {
    int done = 0;
    int all = 0;
    for (int i = 0; i < proposals.size(); i++) {
      Proposal each = proposals.get(i);
      done += each.done;
      all += each.done + each.missed + each.lost;
    }
    if (all == 0) {
      throw new ArithmeticException("no shifts were done, missed or lost");
    }
    return (float) done / (float) all;
  }

  public double meanScore() throws ArithmeticException {
    int sum = 0;
    int number = 0;
    for (int i = 0; i < proposals.size(); i++) {
      Proposal each = proposals.get(i);
      if (each.queuePlace != NO_PLACE) {
        sum += each.score;
        number++;
      }
    }
    if (number == 0) {
      throw new ArithmeticException("no proposals are in queues");
    }
    return (double) sum / (double) number;
  }

  private static boolean isWithin(int value, int least, int most) {
    return value >= least && value <= most;
  }

  private Beamline beamlineNumbered(int number) {
    if (number < 0 || number >= beamlines.size()) {
      throw new IndexOutOfBoundsException("no such beamline");
    }
    return beamlines.get(number);
  }

  private Proposal proposalNumbered(int number) {
    if (number < 0 || number >= proposals.size()) {
      throw new IndexOutOfBoundsException("no such proposal");
    }
    return proposals.get(number);
  }

  private void allotAtScore(Beamline line, int score) {
    for (int i = 0; i < proposals.size(); i++) {
      Proposal each = proposals.get(i);
      if (each.line == line && each.score == score) {
        line.allot(each);
      }
    }
  }

  private int countCold() {
    int sum = 0;
    for (int i = 0; i < proposals.size(); i++) {
      if (proposals.get(i).isCold()) {
        sum++;
      }
    }
    return sum;
  }

  private int owedTo(int user) {
    int sum = 0;
    for (int i = 0; i < proposals.size(); i++) {
      Proposal each = proposals.get(i);
      if (each.user == user) {
        sum += each.owed;
      }
    }
    return sum;
  }

  private static int leftKept(Proposal asked) {
    return asked.line.kept.leftAt(asked.queuePlace);
  }

  private static boolean isMarked(boolean[] users, int user) {
    return user >= 0 && user < users.length && users[user];
  }

  // in the order of the document, since the first reason that applies counts
  private char reasonAt(Beamline line) {
    Proposal current = line.current();
    if (current == null) {
      return NONE_ON;
    }
    if (line.fault) {
      return FAULT;
    }
    if (!isMarked(trained, current.user)) {
      return NOT_TRAINED;
    }
    if (!isMarked(there, current.user)) {
      return NOT_PRESENT;
    }
    if (!current.hasGoodSampleAtBeamline()) {
      return NO_GOOD_SAMPLE;
    }
    if (current.data > line.room - line.used) {
      return DISK_FULL;
    }
    return OPEN;
  }

  private static char kindFor(char reason) {
    if (reason == OPEN) {
      return DONE;
    }
    if (reason == NONE_ON) {
      return IDLE;
    }
    if (reason == FAULT) {
      return LOST;
    }
    return MISSED;
  }

  private int passOne() {
    int done = 0;
    for (int i = 0; i < beamlines.size(); i++) {
      Beamline line = beamlines.get(i);
      char kind = kindFor(reasonAt(line));
      line.runShift(kind);
      if (kind == DONE) {
        done++;
      }
    }
    for (int i = 0; i < proposals.size(); i++) {
      proposals.get(i).ageSample();
    }
    time++;
    return done;
  }

  /** A proposal, with its sample and the counts of its shifts. */
  private static final class Proposal {
    final int number;
    final Beamline line;
    final int user;
    final int score;
    final int wanted;
    final int data;
    int queuePlace = NO_PLACE;
    int sampleLife = NO_SAMPLE;
    char samplePlace = IN_ROOM;
    int done = 0;
    int missed = 0;
    int lost = 0;
    int owed = 0;

    Proposal(int number, Beamline line, int user, int score, int wanted, int data) {
      this.number = number;
      this.line = line;
      this.user = user;
      this.score = score;
      this.wanted = wanted;
      this.data = data;
    }

    boolean hasSample() {
      return sampleLife != NO_SAMPLE;
    }

    boolean isCold() {
      return hasSample() && samplePlace == IN_COLD;
    }

    boolean hasGoodSampleAtBeamline() {
      return sampleLife > 0 && samplePlace == AT_BEAMLINE;
    }

    void ageSample() {
      if (sampleLife > 0 && samplePlace != IN_COLD) {
        sampleLife--;
      }
    }

    void countShift(char kind) {
      if (kind == DONE) {
        done++;
      } else if (kind == MISSED) {
        missed++;
      } else if (kind == LOST) {
        lost++;
      }
    }
  }

  /** A beamline, with its disk, its queue, and the kinds of its shifts since the panel met. */
  private static final class Beamline {
    final int shifts;
    final int room;
    final ArrayList<Proposal> queue = new ArrayList<>();
    final Calendar kept = new Calendar();
    // made once and filled again for each replay, since a look may take no new room
    final Calendar anew = new Calendar();
    final char[] kinds = new char[MOST_SHIFTS];
    int passed = 0;
    int rate = 0;
    int used = 0;
    boolean met = false;
    boolean fault = false;

    Beamline(int shifts, int room) {
      this.shifts = shifts;
      this.room = room;
      this.kept.begin(shifts);
    }

    // the queue and the calendar grow together: a proposal's place is the same in both
    void allot(Proposal next) {
      int place = kept.allot(next.wanted);
      if (place != NO_PLACE) {
        next.queuePlace = place;
        queue.add(next);
      }
    }

    Proposal proposalAt(int place) {
      if (place < 0 || place >= queue.size()) {
        return null;
      }
      return queue.get(place);
    }

    Proposal current() {
      return proposalAt(kept.firstPlace());
    }

    void runShift(char kind) {
      Proposal current = current();
      if (current != null) {
        current.countShift(kind);
        if (kind == DONE) {
          used += current.data;
        }
      }
      Proposal shortened = proposalAt(kept.follow(kind));
      if (shortened != null) {
        shortened.owed++;
      }
      note(kind);
      used = Math.max(0, used - rate);
      fault = false;
    }

    // a replay begins at the panel: what passed before it took nothing from anybody
    void note(char kind) {
      if (met && passed < kinds.length) {
        kinds[passed] = kind;
        passed++;
      }
    }

    void replay() {
      anew.begin(shifts);
      for (int i = 0; i < queue.size(); i++) {
        anew.allot(queue.get(i).wanted);
      }
      for (int i = 0; i < passed && i < kinds.length; i++) {
        anew.follow(kinds[i]);
      }
    }
  }

  /**
   * The shifts of a run: those that each place of the queue has left, and the reserve. A beamline
   * keeps one and replays its shifts on another, so what a shift takes is told only here.
   */
  private static final class Calendar {
    final int[] left = new int[MOST_PROPOSALS];
    int places = 0;
    int reserve = 0;

    void begin(int shifts) {
      places = 0;
      reserve = shifts;
    }

    /** Returns the new last place, or NO_PLACE if too few shifts are left to be allotted. */
    int allot(int wanted) {
      if (wanted > reserve || places >= left.length) {
        return NO_PLACE;
      }
      int place = places;
      left[place] = wanted;
      reserve -= wanted;
      places++;
      return place;
    }

    int leftAt(int place) {
      if (place < 0 || place >= places || place >= left.length) {
        return 0;
      }
      return left[place];
    }

    int leftAheadOf(int place) {
      int sum = 0;
      for (int i = 0; i < place && i < places; i++) {
        sum += leftAt(i);
      }
      return sum;
    }

    int firstPlace() {
      for (int i = 0; i < places; i++) {
        if (leftAt(i) > 0) {
          return i;
        }
      }
      return NO_PLACE;
    }

    int lastPlace() {
      for (int i = places - 1; i >= 0; i--) {
        if (leftAt(i) > 0) {
          return i;
        }
      }
      return NO_PLACE;
    }

    void takeFrom(int place) {
      if (place >= 0 && place < left.length && left[place] > 0) {
        left[place]--;
      }
    }

    /** Returns the place that is owed the shift, or NO_PLACE. */
    int follow(char kind) {
      if (kind == DONE || kind == MISSED) {
        takeFrom(firstPlace());
      }
      if (kind == LOST) {
        return lose();
      }
      return NO_PLACE;
    }

    int lose() {
      if (reserve > 0) {
        reserve--;
        return NO_PLACE;
      }
      int place = lastPlace();
      takeFrom(place);
      return place;
    }
  }
}
