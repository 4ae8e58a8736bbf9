/** What the tests of the project share: texts told to an object, answers that are due. */
final class Due {
  private int wrong = 0;
  private int asked = 0;

  void is(String call, int got, int want) {
    asked++;
    if (got != want) {
      wrong++;
      System.out.println(call + " answered " + got + ", due is " + want);
    }
  }

  void end() {
    System.out.println(wrong == 0 ? asked + " answers are as due" : wrong + " answers are not as due");
    if (wrong != 0) System.exit(1);
  }

  /** The text, and nothing else, is on the tape then. */
  static void tell(ClashDay x, String text) {
    x.end(0);
    for (int i = 0; i < text.length(); i += 20) {
      int[] five = new int[5];
      for (int j = 0; j < 20; j++) {
        int sign = i + j < text.length() ? text.charAt(i + j) : 0;
        five[j / 4] = five[j / 4] << 8 | sign;
      }
      x.feed(five[0], five[1], five[2], five[3], five[4]);
    }
    x.end(text.length());
  }

  static int day(ClashDay x, String text) {
    tell(x, text);
    return x.day();
  }

  static int rule(ClashDay x, String text) {
    tell(x, text);
    return x.rule();
  }

  static ClashDay of(String day) {
    ClashDay x = new ClashDay();
    if (day(x, day) < 0) throw new IllegalStateException(day);
    return x;
  }
}
