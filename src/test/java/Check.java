/** What the tests share: due answers, texts put on THE PAGE, nets and walkers made in one line. */
final class Check {
  private final String test;
  private int checks = 0;
  private int wrong = 0;

  Check(String test) {
    this.test = test;
  }

  void due(String call, long got, long want) {
    checks++;
    if (got != want) {
      wrong++;
      System.out.println(test + ": " + call + " answered " + got + ", due is " + want);
    }
  }

  /** A call that is refused, and that nothing tells of afterwards. */
  interface Call {
    int answer();
  }

  void refused(String call, CarryAlike x, Call made, long want) {
    long before = x.digest();
    due(call, made.answer(), want);
    due("digest() behind the refused " + call, x.digest(), before);
  }

  /** Ends the test, with exit code 1 if an answer was wrong. */
  void end() {
    System.out.println(test + ": " + checks + " answers, " + wrong + " wrong");
    if (wrong != 0 || checks == 0) {
      System.exit(1);
    }
  }

  static long code(String letters) {
    long w = 0;
    for (int i = letters.length() - 1; i >= 0; i--) {
      w = w << 8 | letters.charAt(i);
    }
    return w;
  }

  /** Puts a text behind THE PAGE, eight letters a call: the latest answer. */
  static int write(CarryAlike x, String text) {
    int answer = x.letters(0);
    for (int at = 0; at < text.length(); at += 8) {
      answer = x.letters(code(text.substring(at, Math.min(at + 8, text.length()))));
    }
    return answer;
  }

  static CarryAlike withNet(String text) {
    CarryAlike x = new CarryAlike();
    write(x, text);
    if (x.net() < 1) {
      throw new IllegalStateException("no net: " + text);
    }
    return x;
  }

  /** A WALKER with a WAY (none, if it is empty): its number. */
  static int walker(CarryAlike x, int kind, int corner, int goal, int load, String way) {
    int number = x.walker(kind, corner, goal, load);
    if (number < 0) {
      throw new IllegalStateException("no walker");
    }
    if (!way.isEmpty()) {
      way(x, number, way);
    }
    return number;
  }

  static void way(CarryAlike x, int walker, String way) {
    x.blank();
    write(x, way);
    if (x.way(walker) != way.length()) {
      throw new IllegalStateException("no way: " + way);
    }
  }
}
