import java.util.ArrayList;
import java.util.List;

/**
 * Tells two objects apart by all that can be seen of them, now and later: by looks, by what goes on
 * when shifts pass, and by the answers that changes give. An object is used up by one probe, since
 * it is promised for 512 calls only.
 */
final class Probe {
  static final int WAYS = 3;

  private static final char[] KINDS = {'d', 'm', 'l', 'o'};

  private final Scene scene;
  private final BeamOffice office;
  private final List<String> trace = new ArrayList<>();

  private Probe(Scene scene, BeamOffice office) {
    this.scene = scene;
    this.office = office;
  }

  /** The first answer in which the touched office differs from the scene's own, or nothing. */
  static String difference(int way, Scene scene, BeamOffice touched) {
    List<String> want = trace(way, scene, scene.office());
    List<String> got = trace(way, scene, touched);
    for (int i = 0; i < want.size(); i++) {
      if (!want.get(i).equals(got.get(i))) {
        return want.get(i) + " became " + got.get(i);
      }
    }
    return "";
  }

  private static List<String> trace(int way, Scene scene, BeamOffice office) {
    Probe probe = new Probe(scene, office);
    if (way == 0) {
      probe.askWhatIsThere();
    } else if (way == 1) {
      probe.lookAtAll();
      probe.letShiftsPass();
    } else {
      probe.lookAtAll();
      probe.changeAll();
    }
    return probe.trace;
  }

  private void tell(String call, Check.Call answer) {
    trace.add(call + " = " + Check.outcome(answer));
  }

  /**
   * What a refused call does wrong may be hidden by a probe that is refused, too, and does it to
   * both offices: so this one asks first what is answered.
   */
  private void askWhatIsThere() {
    tell("time", office::time);
    for (int user = 0; user <= 9; user++) {
      int one = user;
      tell("setThere " + one, () -> office.setThere(one, true));
    }
    for (int i = 0; i < scene.lines; i++) {
      int line = i;
      tell("setRate " + line, () -> office.setRate(line, 1));
      tell("reason " + line, () -> office.reason(line));
      tell("used " + line, () -> office.used(line));
    }
    for (int i = 0; i < scene.works; i++) {
      int work = i;
      tell("left " + work, () -> office.left(work));
      tell("leftAnew " + work, () -> office.leftAnew(work));
      for (char kind : KINDS) {
        tell("count " + work + " " + kind, () -> office.count(work, kind));
      }
    }
    for (int i = 0; i < scene.works; i++) {
      int work = i;
      tell("put " + work + " b", () -> office.put(work, 'b'));
    }
    tell("pass 10", () -> office.pass(10));
    lookAtAll();
  }

  /** One more beamline and proposal than there can be: that they are missing is seen, too. */
  private void lookAtAll() {
    tell("time", office::time);
    for (int i = 0; i <= 2; i++) {
      int line = i;
      tell("reserve " + line, () -> office.reserve(line));
      tell("on " + line, () -> office.on(line));
      tell("reason " + line, () -> office.reason(line));
      tell("used " + line, () -> office.used(line));
    }
    for (int i = 0; i <= 8; i++) {
      int work = i;
      tell("life " + work, () -> office.life(work));
      tell("left " + work, () -> office.left(work));
      tell("leftAnew " + work, () -> office.leftAnew(work));
      tell("nextAt " + work, () -> office.nextAt(work));
      for (char kind : KINDS) {
        tell("count " + work + " " + kind, () -> office.count(work, kind));
      }
    }
    tell("mostOwed", office::mostOwed);
    tell("doneShare", office::doneShare);
    tell("meanScore", office::meanScore);
  }

  private void letShiftsPass() {
    for (int shift = 0; shift < 8; shift++) {
      for (int i = 0; i <= 1; i++) {
        int line = i;
        tell("on " + line, () -> office.on(line));
        tell("reason " + line, () -> office.reason(line));
        tell("used " + line, () -> office.used(line));
      }
      tell("pass 1", () -> office.pass(1));
    }
    tell("pass 20", () -> office.pass(20));
    lookAtAll();
  }

  /** Each change tells what was there before; then all is made ready, and runs. */
  private void changeAll() {
    for (int i = 0; i <= 1; i++) {
      int line = i;
      tell("setRate " + line, () -> office.setRate(line, 1));
      tell("fail " + line, () -> office.fail(line));
      tell("pass 1", () -> office.pass(1));
      tell("propose " + line, () -> office.propose(line, 0, 1, 1, 1));
      tell("meet " + line, () -> office.meet(line));
    }
    for (int i = 0; i <= 9; i++) {
      int user = i;
      tell("setThere " + user, () -> office.setThere(user, true));
      tell("train " + user, () -> office.train(user));
    }
    for (int i = 0; i <= 8; i++) {
      int work = i;
      tell("put " + work + " b", () -> office.put(work, 'b'));
      tell("put " + work + " c", () -> office.put(work, 'c'));
      tell("bring " + work, () -> office.bring(work, 50));
      tell("put " + work + " b", () -> office.put(work, 'b'));
    }
    for (int i = 0; i < 9; i++) {
      tell("pass 1", () -> office.pass(1));
      tell("used 0", () -> office.used(0));
      tell("used 1", () -> office.used(1));
    }
    tell("addBeamline", () -> office.addBeamline(3, 10));
    tell("pass 20", () -> office.pass(20));
    lookAtAll();
  }
}
