import java.util.ArrayList;
import java.util.List;

/**
 * Long mixed runs of all calls, right and wrong ones, each answer against the model's. Looks at all
 * that can be seen come in between, so that a call that throws is seen to have changed nothing.
 */
public final class ModelTest {
  private static final int RUNS = 3000;
  // an object is promised for 512 calls only, and looks count: a round of them needs its room
  private static final int MOST_CALLS = 512;
  private static final int MOST_IN_ROUND = 70;
  private static final int SHOWN = 20;
  private static final int[] WILD = {Integer.MIN_VALUE, -1000, -1, 0, 1, 2, 3, 8, 9, 10, 20, 21,
    40, 41, 50, 51, 99, 100, 101, 200, 999, 1000, 65536, Integer.MAX_VALUE};
  private static final char[] SIGNS = {'r', 'c', 'b', 'd', 'm', 'l', 'o', 'q', 'f', 't', 'p', 's',
    'x', 'R', '-', 0, 255, 65535};

  private static final Check check = new Check("ModelTest");

  private final int run;
  private final BeamOffice office = new BeamOffice();
  private final Model model = new Model();
  private final List<String> told = new ArrayList<>();
  private long seed;
  private int calls = 0;
  private boolean same = true;

  private ModelTest(int run) {
    this.run = run;
    this.seed = 0x5DEECE66DL * (run + 1);
  }

  public static void main(String[] args) {
    int shown = 0;
    for (int run = 0; run < RUNS && shown < SHOWN; run++) {
      ModelTest one = new ModelTest(run);
      one.play();
      check.due("run " + run + " " + (one.same ? "" : one.told), true, one.same);
      shown += one.same ? 0 : 1;
    }
    check.end();
  }

  /** A plain generator of the test's own: the same runs come each time. */
  private int below(int bound) {
    seed = seed * 6364136223846793005L + 1442695040888963407L;
    return (int) ((seed >>> 33) % bound);
  }

  private int wildOr(int usual) {
    return below(40) == 0 ? WILD[below(WILD.length)] : usual;
  }

  private int among(int low, int high) {
    return wildOr(low + below(high - low + 1));
  }

  private char sign(String usual) {
    return below(30) == 0 ? SIGNS[below(SIGNS.length)] : usual.charAt(below(usual.length()));
  }

  private void same(String call, Object due, Check.Call real) {
    calls++;
    Object got = Check.outcome(real);
    told.add(call + "=" + got);
    if (!due.equals(got)) {
      same = false;
      told.add("due is " + due);
    }
  }

  private void play() {
    int style = below(4);
    prepare(style);
    while (same && calls < MOST_CALLS - MOST_IN_ROUND) {
      act(style);
      if (below(6) == 0) {
        lookAtAll();
      } else {
        lookAtOne();
      }
    }
  }

  private void prepare(int style) {
    int lines = below(10) == 0 ? below(2) : 1 + below(2);
    for (int i = 0; i < lines; i++) {
      addBeamline();
    }
    int works = style == 0 ? below(4) : 2 + below(8);
    for (int i = 0; i < works && same; i++) {
      propose();
    }
    for (int user = 0; user < 10 && style > 0; user++) {
      if (below(5) > 0) {
        int one = user;
        same("train " + one, model.train(one), () -> office.train(one));
        same("setThere " + one, model.setThere(one, true), () -> office.setThere(one, true));
      }
    }
    for (int i = 0; i < lines && style > 1; i++) {
      int line = i;
      same("meet " + line, model.meet(line), () -> office.meet(line));
    }
  }

  private void addBeamline() {
    int shifts = among(3, below(2) == 0 ? 40 : 12);
    int room = among(10, below(2) == 0 ? 999 : 100);
    same("addBeamline " + shifts + " " + room, model.addBeamline(shifts, room),
        () -> office.addBeamline(shifts, room));
  }

  private void propose() {
    int line = among(0, 1);
    int user = among(0, below(2) == 0 ? 9 : 2);
    int score = below(2) == 0 ? among(0, 100) : among(50, 52);
    int wanted = among(1, below(2) == 0 ? 9 : 3);
    int data = among(0, below(2) == 0 ? 99 : 20);
    same("propose " + line + " " + user + " " + score + " " + wanted + " " + data,
        model.propose(line, user, score, wanted, data),
        () -> office.propose(line, user, score, wanted, data));
  }

  private int anyWork() {
    return among(0, Math.max(0, model.works.size() - 1));
  }

  /** A proposal that is on, where one is: those are the ones whose samples matter. */
  private int usefulWork() {
    Object on = model.on(below(2));
    return on instanceof Integer && below(3) > 0 ? (Integer) on : anyWork();
  }

  private void act(int style) {
    int line = among(0, 1);
    int user = among(0, 9);
    int work = usefulWork();
    int chance = below(100);
    if (chance < 14) {
      int life = among(1, below(2) == 0 ? 50 : 4);
      same("bring " + work + " " + life, model.bring(work, life), () -> office.bring(work, life));
    } else if (chance < 34) {
      char place = sign("rcbbbcb");
      same("put " + work + " " + (int) place, model.put(work, place),
          () -> office.put(work, place));
    } else if (chance < 54) {
      same("fail " + line, model.fail(line), () -> office.fail(line));
    } else if (chance < 80) {
      int shifts = style == 3 ? among(1, 20) : among(1, 2);
      same("pass " + shifts, model.pass(shifts), () -> office.pass(shifts));
    } else if (chance < 86) {
      boolean isThere = below(3) > 0;
      same("setThere " + user + " " + isThere, model.setThere(user, isThere),
          () -> office.setThere(user, isThere));
    } else if (chance < 89) {
      same("train " + user, model.train(user), () -> office.train(user));
    } else if (chance < 93) {
      int units = among(0, below(2) == 0 ? 99 : 9);
      same("setRate " + line + " " + units, model.setRate(line, units),
          () -> office.setRate(line, units));
    } else if (chance < 96) {
      propose();
    } else if (chance < 99) {
      same("meet " + line, model.meet(line), () -> office.meet(line));
    } else {
      addBeamline();
    }
  }

  private void lookAtOne() {
    int choice = below(8);
    if (choice < 2) {
      lookAtLine(among(0, 1));
    } else if (choice < 5) {
      lookAtWork(anyWork());
    } else {
      lookAround();
    }
  }

  private void lookAtAll() {
    for (int line = 0; line < model.lines.size(); line++) {
      lookAtLine(line);
    }
    for (int work = 0; work < model.works.size(); work++) {
      lookAtWork(work);
    }
    lookAround();
  }

  private void lookAtLine(int line) {
    same("reserve " + line, model.reserve(line), () -> office.reserve(line));
    same("on " + line, model.on(line), () -> office.on(line));
    same("reason " + line, model.reason(line), () -> office.reason(line));
    same("used " + line, model.used(line), () -> office.used(line));
  }

  private void lookAtWork(int work) {
    char kind = sign("dmlo");
    same("life " + work, model.life(work), () -> office.life(work));
    same("left " + work, model.left(work), () -> office.left(work));
    same("leftAnew " + work, model.left(work), () -> office.leftAnew(work));
    same("nextAt " + work, model.nextAt(work), () -> office.nextAt(work));
    same("count " + work + " " + (int) kind, model.count(work, kind),
        () -> office.count(work, kind));
  }

  private void lookAround() {
    same("time", model.time, office::time);
    same("mostOwed", model.mostOwed(), office::mostOwed);
    same("doneShare", model.doneShare(), office::doneShare);
    same("meanScore", model.meanScore(), office::meanScore);
  }
}
