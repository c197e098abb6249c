/** Promises 39 to 41 and 43 to 45: the ROW, THE IMAGE, the counts. */
final class RowAndImageTest {
  private static final int LEAST = Integer.MIN_VALUE;
  private static final int GREATEST = Integer.MAX_VALUE;
  private static final Due due = new Due();

  private static void promise39Row() {
    TakesWhatItLacks x = new TakesWhatItLacks();
    due.is("39: row(-1)", -4, x.row(-1));
    due.is("39: row(least)", -4, x.row(LEAST));
    due.is("39: row(100)", -6, x.row(100));
    due.is("39: row(greatest)", -6, x.row(GREATEST));
    due.is("39: none yet", 0, x.count(6));
    for (int i = 1; i <= 12; i++) {
      due.is("39: row()", i, x.row(i == 1 ? 0 : 99));
      due.is("39: in the ROW", i, x.count(6));
    }
    due.is("39: a 13th", -6, x.row(0));
    due.is("39: -1 as a 13th", -4, x.row(-1));
    due.is("39: twelve", 12, x.count(6));
    due.is("39: refused -4", 3, x.count(14));
    due.is("39: refused -6", 3, x.count(16));
  }

  private static void judged(int want, String text, int... row) {
    TakesWhatItLacks x = Due.town(text);
    for (int number : row) {
      x.row(number);
    }
    due.is("40: judge() of " + java.util.Arrays.toString(row), want, x.judge());
    due.is("40: the ROW has none then", 0, x.count(6));
  }

  private static void promise40Judge() {
    due.is("40: nothing to judge", -9, new TakesWhatItLacks().judge());
    judged(-9, "s10000;s00000;s20000;");
    judged(-9, "s10000;s00000;s20000;", 9);
    judged(-9, "s10000;s00000;s20000;", 9, 0, 6);
    judged(3, "s10000;s00000;s20000;", 9, 0, 6, 0);
    judged(0, "s10000;s00000;s20000;", 8, 0, 6);
    judged(1, "s10000;s00000;s20000;", 9, 1, 7);
    judged(2, "s10000;s00000;s20000;", 9, 0, 7, 1);
    judged(0, "t020;", 0);
    judged(-9, "s10000;s00000;s20000;d01;", 10, 1, 7);
  }

  private static void promise41Clear() {
    TakesWhatItLacks x = new TakesWhatItLacks();
    due.is("41: clear() of none", 0, x.clear());
    x.row(1);
    x.row(2);
    due.is("41: clear()", 2, x.clear());
    due.is("41: none then", 0, x.count(6));
    due.is("41: and again", 0, x.clear());
    due.is("41: row() behind it", 1, x.row(5));
  }

  private static void promise43And44ImageAndRestore() {
    TakesWhatItLacks x = Due.town("s10312;s09360;c07;h405;u58;d01;");
    due.is("44: restore() of none", -3, x.restore());
    due.is("43: image()", 1, x.image());
    x.feed('s');
    x.row(9);
    x.sends(0, 77);
    x.hides(4, 3);
    x.uses(5, 1);
    x.ship(3, 3, 3, 3);
    x.days(30);
    x.hides(4, -1);
    due.is("44: restore()", 1, x.restore());
    due.is("44: DAY", 1, x.count(1));
    due.is("44: COUGHS", 7, x.count(2));
    due.is("44: SHIPS", 2, x.count(0));
    due.is("44: IN", 1, x.count(3));
    due.is("44: LOAD", 12, x.shipOf(0, 3));
    due.is("44: FIGURE", 9, x.shipOf(1, 1));
    due.is("44: THERE of 4", 13, x.good(4, 0));
    due.is("44: HIDDEN of 4", 5, x.good(4, 2));
    due.is("44: USED of 5", 8, x.good(5, 1));
    due.is("44: letters stay", 1, x.count(5));
    due.is("44: the ROW stays", 1, x.count(6));
    due.is("44: REFUSALS stay", 1, x.count(13));
    due.is("44: nothing can be TAKEN BACK", 0, x.count(7));
    x.days(2);
    due.is("44: it is there still", 1, x.restore());
    x.days(5);
    due.is("43: another IMAGE", 6, x.image());
    x.days(5);
    due.is("44: another IMAGE RESTORED", 6, x.restore());
    x.uses(0, 1);
    x.image();
    due.is("43: what can be TAKEN BACK stays", 1, x.count(7));
    due.is("43: back() behind it", 0, x.back());
    due.is("43: USED is as it was", 2, x.good(0, 1));
    x.restore();
    due.is("44: USED as in THE IMAGE", 1, x.good(0, 1));
    due.is("44: what changed behind is no more", 2, x.count(0));
  }

  private static void promise45Count() {
    TakesWhatItLacks x = Due.town("s10000;s09200;s10000;u09;c41;d02;");
    x.feed('a');
    x.row(1);
    x.row(2);
    x.hides(1, 1);
    x.hides(1, 1);
    x.hides(1, 1);
    due.is("45: SHIPS", 3, x.count(0));
    due.is("45: DAY", 2, x.count(1));
    due.is("45: COUGHS", 43, x.count(2));
    due.is("45: who is IN", 5, x.count(3));
    due.is("45: LACK of all GOODS", 61 + 1, x.count(4));
    due.is("45: letters", 1, x.count(5));
    due.is("45: in the ROW", 2, x.count(6));
    due.is("45: what can be TAKEN BACK", 3, x.count(7));
    int[] others = {-1, 8, 9, 10, 17, 18, -10, 100, LEAST, GREATEST};
    for (int what : others) {
      due.is("45: count(" + what + ")", -9, x.count(what));
    }
    x.lasts(9);
    for (int i = 0; i < 2; i++) {
      x.mean(5);
    }
    for (int i = 0; i < 3; i++) {
      x.restore();
    }
    for (int i = 0; i < 4; i++) {
      x.tide(-1);
    }
    for (int i = 0; i < 6; i++) {
      x.spared(0, 61);
    }
    due.is("45: REFUSALS -1", 1, x.count(11));
    due.is("45: REFUSALS -2", 2, x.count(12));
    due.is("45: REFUSALS -3", 3, x.count(13));
    due.is("45: REFUSALS -4", 4, x.count(14));
    due.is("45: REFUSALS -5", 0, x.count(15));
    due.is("45: REFUSALS -6", 6, x.count(16));
  }

  public static void main(String[] args) {
    promise39Row();
    promise40Judge();
    promise41Clear();
    promise43And44ImageAndRestore();
    promise45Count();
    due.end("RowAndImageTest");
  }
}
