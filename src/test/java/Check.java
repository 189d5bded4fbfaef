/** Counts and prints the answers that are not the ones that are due. */
final class Check {
  /** A call that may throw. */
  interface Call {
    Object answer();
  }

  private final String test;
  private String about = "";
  private int right = 0;
  private int wrong = 0;

  Check(String test) {
    this.test = test;
  }

  /** What the checks from here on are about: it stands ahead of each answer that is told. */
  void about(String title) {
    about = title + ": ";
  }

  void due(String what, Object want, Object got) {
    if (want == null ? got == null : want.equals(got)) {
      right++;
    } else {
      wrong++;
      System.out.println(test + ": " + about + what + ": answered " + got + ", due is " + want);
    }
  }

  /** The exception must be of the very class: the machine's own ones are classes below it. */
  void dueThrow(String what, Class<?> want, Call call) {
    due(what, "throws " + want.getName(), outcome(call));
  }

  static Object outcome(Call call) {
    try {
      return call.answer();
    } catch (RuntimeException thrown) {
      return "throws " + thrown.getClass().getName() + thrower(thrown);
    }
  }

  /** The class has to throw by itself: what a list throws for a wrong index is not its own. */
  private static String thrower(RuntimeException thrown) {
    StackTraceElement[] trace = thrown.getStackTrace();
    String where = trace.length == 0 ? "nowhere" : trace[0].getClassName();
    return where.equals("BeamOffice") ? "" : " in " + where;
  }

  /** Ends the test's program: a test that checked nothing has failed, too. */
  void end() {
    System.out.println(test + ": " + right + " answers as due, " + wrong + " not");
    if (wrong != 0 || right == 0) {
      System.exit(1);
    }
  }
}
