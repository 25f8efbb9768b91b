/** What the project's tests share: calls whose answers are not as due are printed, and counted. */
final class Check {
  private final String title;
  private int wrong = 0;
  private int asked = 0;

  Check(String title) {
    this.title = title;
  }

  void due(String call, long want, long got) {
    asked++;
    if (got != want) {
      wrong++;
      System.out.println(title + ": " + call + " answered " + got + ", due is " + want);
    }
  }

  void end() {
    System.out.println(title + ": " + asked + " answers, " + wrong + " not as due");
    if (wrong != 0 || asked == 0) {
      System.exit(1);
    }
  }

  /** Puts the text on THE TAPE. */
  static void feedAll(OneAnger x, String text) {
    for (int i = 0; i < text.length(); i += 8) {
      long v = 0L;
      for (int j = i; j < i + 8; j++) {
        v = v << 8 | (j < text.length() ? text.charAt(j) & 255 : 32);
      }
      x.feed(v);
    }
    x.end(text.length());
  }

  static int tell(OneAnger x, String text) {
    feedAll(x, text);
    return x.village();
  }

  static OneAnger told(String text) {
    OneAnger x = new OneAnger();
    if (tell(x, text) < 0) {
      throw new IllegalStateException("a test's text is faulty: " + text);
    }
    return x;
  }
}
