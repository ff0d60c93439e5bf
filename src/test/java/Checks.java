/** What the tests share: it counts the answers that are not as due, and ends the test with them. */
final class Checks {
  interface Call {
    Object answer();
  }

  private int wrong;
  private int looked;
  private String part = "";

  void part(String name) {
    part = name;
  }

  void due(String call, Object want, Call got) {
    looked++;
    String answer = tell(got);
    if (!String.valueOf(want).equals(answer)) {
      wrong++;
      if (wrong <= 40) {
        System.out.println(part + ": " + call + " answered " + answer + ", due is " + want);
      }
    }
  }

  /** The answer as a text; an exception is "throws." and its name. */
  static String tell(Call call) {
    try {
      return String.valueOf(call.answer());
    } catch (RuntimeException e) {
      return "throws." + e.getClass().getSimpleName();
    }
  }

  int wrong() {
    return wrong;
  }

  int looked() {
    return looked;
  }

  void end() {
    System.out.println(looked + " answers looked at, " + wrong + " not as due");
    if (wrong != 0 || looked == 0) {
      System.exit(1);
    }
  }
}
