/** Compares answers with those that are due, prints what differs, and ends with 1 if anything did. */
final class Due {
  private static final int MOST_PRINTED = 40;
  private int asked;
  private int wrong;

  void is(String call, long want, long got) {
    asked++;
    if (want != got) {
      wrong++;
      if (wrong <= MOST_PRINTED) {
        System.out.println(call + " answered " + got + ", due is " + want);
      }
    }
  }

  boolean isWrong() {
    return wrong != 0;
  }

  void end(String test) {
    System.out.println(test + ": " + (wrong == 0 ? asked + " answers, all as due" : wrong + " of " + asked + " wrong"));
    if (wrong != 0) {
      System.exit(1);
    }
  }

  static int tell(TakesWhatItLacks x, String text) {
    for (int i = 0; i < text.length(); i++) {
      x.feed(text.charAt(i));
    }
    return x.harbour();
  }

  /** One text is 96 letters at most, so a town may be told in several. */
  static TakesWhatItLacks town(String... texts) {
    TakesWhatItLacks x = new TakesWhatItLacks();
    for (String text : texts) {
      int answer = tell(x, text);
      if (answer < 0) {
        throw new IllegalArgumentException("not a harbour: " + text + ": " + answer);
      }
    }
    return x;
  }

  /** A text that lets so many DAYS, 0 .. 999, go by. */
  static String days(int n) {
    StringBuilder text = new StringBuilder();
    for (int left = n; left > 0; left -= 60) {
      int some = Math.min(60, left);
      text.append('d').append(some / 10).append(some % 10).append(';');
    }
    return text.toString();
  }
}
