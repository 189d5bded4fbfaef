import java.util.ArrayList;
import java.util.Arrays;
import java.util.Comparator;
import java.util.List;

/**
 * The document told a second time, as plainly as it can be and without regard to room: the state
 * is open, the numbers are found by looking over all of it. Wrong calls are answered by the name of
 * the exception that is due.
 */
final class Model {
  static final String RANGE = "throws java.lang.IllegalArgumentException";
  static final String STATE = "throws java.lang.IllegalStateException";
  static final String INDEX = "throws java.lang.IndexOutOfBoundsException";
  static final String NONE = "throws java.util.NoSuchElementException";
  static final String FULL = "throws java.lang.UnsupportedOperationException";
  static final String NUMBERS = "throws java.lang.ArithmeticException";

  /** A beamline; its queue is null until the panel has met. */
  static final class Line {
    int shifts;
    int room;
    int used;
    int rate;
    int reserve;
    boolean fault;
    List<Work> queue;

    Work on() {
      return queue == null ? null
          : queue.stream().filter(work -> work.left > 0).findFirst().orElse(null);
    }
  }

  /** A proposal; its sample's life is null while it has none. */
  static final class Work {
    int number;
    Line line;
    int user;
    int score;
    int wanted;
    int data;
    int left;
    Integer life;
    char place;
    int done;
    int missed;
    int lost;
    int owed;
  }

  final List<Line> lines = new ArrayList<>();
  final List<Work> works = new ArrayList<>();
  final boolean[] trained = new boolean[10];
  final boolean[] there = new boolean[10];
  int time;

  private static boolean out(int value, int low, int high) {
    return value < low || value > high;
  }

  private boolean noLine(int line) {
    return out(line, 0, lines.size() - 1);
  }

  private boolean noWork(int work) {
    return out(work, 0, works.size() - 1);
  }

  Object addBeamline(int shifts, int room) {
    if (out(shifts, 3, 40) || out(room, 10, 999)) {
      return RANGE;
    }
    if (lines.size() == 2) {
      return STATE;
    }
    Line line = new Line();
    line.shifts = shifts;
    line.room = room;
    lines.add(line);
    return lines.size() - 1;
  }

  Object setRate(int line, int units) {
    if (noLine(line)) {
      return INDEX;
    }
    if (out(units, 0, 99)) {
      return RANGE;
    }
    int before = lines.get(line).rate;
    lines.get(line).rate = units;
    return before;
  }

  Object propose(int line, int user, int score, int wanted, int data) {
    if (noLine(line)) {
      return INDEX;
    }
    if (out(user, 0, 9) || out(score, 0, 100) || out(wanted, 1, 9) || out(data, 0, 99)) {
      return RANGE;
    }
    if (lines.get(line).queue != null || works.size() == 8) {
      return STATE;
    }
    Work work = new Work();
    work.number = works.size();
    work.line = lines.get(line);
    work.user = user;
    work.score = score;
    work.wanted = wanted;
    work.data = data;
    works.add(work);
    return work.number;
  }

  Object meet(int number) {
    if (noLine(number)) {
      return INDEX;
    }
    Line line = lines.get(number);
    if (line.queue != null) {
      return STATE;
    }
    line.queue = new ArrayList<>();
    line.reserve = line.shifts;
    List<Work> ranked = new ArrayList<>(works);
    ranked.removeIf(work -> work.line != line);
    ranked.sort(Comparator.comparingInt((Work work) -> -work.score)
        .thenComparingInt(work -> work.number));
    for (Work work : ranked) {
      if (work.wanted <= line.reserve) {
        work.left = work.wanted;
        line.reserve -= work.wanted;
        line.queue.add(work);
      }
    }
    return line.queue.size();
  }

  Object reserve(int line) {
    return noLine(line) ? INDEX : lines.get(line).queue == null ? STATE : lines.get(line).reserve;
  }

  Object train(int user) {
    if (out(user, 0, 9)) {
      return INDEX;
    }
    if (trained[user]) {
      return STATE;
    }
    trained[user] = true;
    int sum = 0;
    for (int i = 0; i < 10; i++) {
      sum += trained[i] ? 1 : 0;
    }
    return sum;
  }

  Object setThere(int user, boolean isThere) {
    if (out(user, 0, 9)) {
      return INDEX;
    }
    boolean before = there[user];
    there[user] = isThere;
    return before;
  }

  Object bring(int number, int life) {
    if (noWork(number)) {
      return INDEX;
    }
    if (out(life, 1, 50)) {
      return RANGE;
    }
    Work work = works.get(number);
    int before = work.life == null ? -1 : work.life;
    work.life = life;
    work.place = 'r';
    return before;
  }

  Object put(int number, char place) {
    if (noWork(number)) {
      return INDEX;
    }
    if ("rcb".indexOf(place) < 0) {
      return RANGE;
    }
    Work work = works.get(number);
    if (work.life == null) {
      return NONE;
    }
    long cold = works.stream().filter(each -> each.place == 'c').count();
    if (place == 'c' && work.place != 'c' && cold == 3) {
      return FULL;
    }
    char before = work.place;
    work.place = place;
    return before;
  }

  Object life(int number) {
    if (noWork(number)) {
      return INDEX;
    }
    Integer life = works.get(number).life;
    return life == null ? NONE : life;
  }

  Object on(int line) {
    if (noLine(line)) {
      return INDEX;
    }
    Work on = lines.get(line).on();
    return on == null ? NONE : on.number;
  }

  Object reason(int line) {
    return noLine(line) ? INDEX : why(lines.get(line));
  }

  private char why(Line line) {
    Work on = line.on();
    return on == null ? 'q'
        : line.fault ? 'f'
        : !trained[on.user] ? 't'
        : !there[on.user] ? 'p'
        : on.life == null || on.life == 0 || on.place != 'b' ? 's'
        : line.used + on.data > line.room ? 'd' : '-';
  }

  Object fail(int number) {
    if (noLine(number)) {
      return INDEX;
    }
    Line line = lines.get(number);
    if (line.fault) {
      return STATE;
    }
    line.fault = true;
    return line.on() != null;
  }

  Object pass(int shifts) {
    if (out(shifts, 1, 20)) {
      return RANGE;
    }
    if (time + shifts > 200) {
      return STATE;
    }
    int before = works.stream().mapToInt(work -> work.done).sum();
    for (int i = 0; i < shifts; i++) {
      lines.forEach(this::passAt);
      for (Work work : works) {
        if (work.life != null && work.life > 0 && work.place != 'c') {
          work.life--;
        }
      }
      time++;
    }
    return works.stream().mapToInt(work -> work.done).sum() - before;
  }

  private void passAt(Line line) {
    Work on = line.on();
    switch (why(line)) {
      case 'q':
        break;
      case 'f':
        on.lost++;
        lose(line);
        break;
      case '-':
        on.done++;
        on.left--;
        line.used += on.data;
        break;
      default:
        on.missed++;
        on.left--;
        break;
    }
    line.used -= Math.min(line.used, line.rate);
    line.fault = false;
  }

  private static void lose(Line line) {
    if (line.reserve != 0) {
      line.reserve--;
      return;
    }
    Work last = null;
    for (Work work : line.queue) {
      last = work.left > 0 ? work : last;
    }
    last.left--;
    last.owed++;
  }

  Object used(int line) {
    return noLine(line) ? INDEX : lines.get(line).used;
  }

  Object left(int work) {
    return noWork(work) ? INDEX : works.get(work).left;
  }

  Object nextAt(int number) {
    if (noWork(number)) {
      return INDEX;
    }
    Work work = works.get(number);
    if (work.left == 0) {
      return NONE;
    }
    int at = time;
    for (Work ahead : work.line.queue.subList(0, work.line.queue.indexOf(work))) {
      at += ahead.left;
    }
    return at;
  }

  Object count(int number, char kind) {
    if (noWork(number)) {
      return INDEX;
    }
    Work work = works.get(number);
    switch (kind) {
      case 'd': return work.done;
      case 'm': return work.missed;
      case 'l': return work.lost;
      case 'o': return work.owed;
      default: return RANGE;
    }
  }

  Object mostOwed() {
    int[] owed = new int[10];
    works.forEach(work -> owed[work.user] += work.owed);
    int most = Arrays.stream(owed).max().orElse(0);
    for (int user = 0; most > 0; user++) {
      if (owed[user] == most) {
        return user;
      }
    }
    return NONE;
  }

  Object doneShare() {
    int done = works.stream().mapToInt(work -> work.done).sum();
    int rest = works.stream().mapToInt(work -> work.missed + work.lost).sum();
    return done + rest == 0 ? (Object) NUMBERS : (Object) ((float) done / (float) (done + rest));
  }

  Object meanScore() {
    int sum = 0;
    int number = 0;
    for (Line line : lines) {
      if (line.queue != null) {
        sum += line.queue.stream().mapToInt(work -> work.score).sum();
        number += line.queue.size();
      }
    }
    return number == 0 ? (Object) NUMBERS : (Object) ((double) sum / (double) number);
  }
}
