/**
 * "A HARBOUR is told in letters, one by one (96 at most)", promises 2 and 3: each sentence that names a boundary case. The
 * sentence stands above its test.
 */
final class LettersEdgeTest {
  /** Each form of a STATEMENT, that a new town with one BRIDE that is IN takes. */
  private static final String[] STATEMENTS = {"s59599;", "t599;", "u59;", "h520;", "o0;", "c99;", "d60;"};
  private static final String BRIDE_IN = "s10000;d01;";
  private static final char[] NO_DIGITS = {'/', ':', ';', ' ', 'a', 's', '-', 0, 255, '0' + 128, '0' - 10};
  private static final char[] NO_ENDS = {':', '<', '0', '9', ' ', 's', 0, 255, ';' + 128};
  private static final char[] NO_BEGINS = {';', '0', '9', ' ', 'r', 'v', 'b', 'e', 'g', 'i', 'n', 'p', 'S', 'D', 0, 255,
    's' + 128};
  private static final Due due = new Due();

  private static TakesWhatItLacks brideIn() {
    return Due.town(BRIDE_IN);
  }

  private static void tells(int want, String text, String... town) {
    TakesWhatItLacks x = Due.town(town);
    due.is(text + " in " + String.join(" ", town), want, Due.tell(x, text));
    due.is(text + " in " + String.join(" ", town) + ": letters left", 0, x.count(5));
    for (int what = 11; what <= 16; what++) {
      due.is(text + " in " + String.join(" ", town) + ": count(" + what + ")", 0, x.count(what));
    }
  }

  // ---- promise 2

  /** "A letter comes: how many there are. -4; -6 (255; 96, too)." */
  private static void feed() {
    TakesWhatItLacks x = new TakesWhatItLacks();
    due.is("no letters at first", 0, x.count(5));
    due.is("one below the least", -4, x.feed(-1));
    due.is("one above the greatest", -6, x.feed(256));
    due.is("none of them came", 0, x.count(5));
    due.is("the least", 1, x.feed(0));
    due.is("the greatest", 2, x.feed(255));
    due.is("any between", 3, x.feed('~'));
    for (int many = 4; many <= 96; many++) {
      due.is("letter " + many, many, x.feed(';'));
      due.is("letters", many, x.count(5));
    }
    due.is("a 97th", -6, x.feed(';'));
    due.is("a 97th above the greatest", -6, x.feed(256));
    due.is("a 97th below the least", -4, x.feed(-1));
    due.is("96 still", 96, x.count(5));
    due.is("-4", 2, x.count(14));
    due.is("-6", 3, x.count(16));
    due.is("the FAULT of them", -1000, x.harbour());
    due.is("they begin anew", 1, x.feed('c'));
    for (int letter = 0; letter <= 255; letter++) {
      TakesWhatItLacks any = new TakesWhatItLacks();
      due.is("any letter from the least to the greatest, " + letter, 1, any.feed(letter));
    }
  }

  // ---- promise 3: kind 1

  /** "kind 1 the place of the first letter with which no HARBOUR can go on (the end, if something lacks): -1000 less the place." */
  private static void somethingLacks() {
    tells(-1000, "");
    for (String statement : STATEMENTS) {
      for (int length = 1; length < statement.length(); length++) {
        String cut = statement.substring(0, length);
        tells(-1000 - length, cut, BRIDE_IN);
        tells(-1004 - length, "c00;" + cut, BRIDE_IN);
        tells(-1013 - length, "t600;d00;u60;" + cut, BRIDE_IN);
      }
    }
  }

  private static void wrongLetter(String statement, int place, char letter) {
    String text = statement.substring(0, place) + letter + statement.substring(place + 1);
    tells(-1000 - place, text, BRIDE_IN);
    tells(-1000 - place, text + "c00;", BRIDE_IN);
    tells(-1004 - place, "c00;" + text, BRIDE_IN);
    tells(-1000 - place, text.substring(0, place + 1), BRIDE_IN);
  }

  /** Each letter of each STATEMENT put wrong: the place is that of the wrong one. */
  private static void eachLetterWrong() {
    for (String statement : STATEMENTS) {
      int last = statement.length() - 1;
      for (char letter : NO_BEGINS) {
        wrongLetter(statement, 0, letter);
      }
      for (int place = 1; place < last; place++) {
        for (char letter : NO_DIGITS) {
          wrongLetter(statement, place, letter);
        }
      }
      for (char letter : NO_ENDS) {
        wrongLetter(statement, last, letter);
      }
    }
  }

  /** "At least one STATEMENT." */
  private static void atLeastOne() {
    tells(-1000, "");
    tells(-1000, ";");
    tells(1, "c00;");
    tells(-1004, "c00;;");
    tells(2, "c00;c00;");
  }

  /** "FAULT: kind 1 ...; else kind 2": a letter that is wrong counts ahead of a STATEMENT that is, wherever it stands. */
  private static void kind1AheadOfKind2() {
    tells(-2000, "t600;");
    tells(-2000, "t600;c00;");
    tells(-1005, "t600;x");
    tells(-1006, "t600;c");
    tells(-1008, "t600;c00");
    tells(-1005, "t600;;");
    tells(-1011, "d00;d61;o0;x");
    tells(-2000, "d00;d61;o0;");
  }

  // ---- promise 3: kind 2

  /** "a number out of range, no such one": of each number of each STATEMENT the greatest and what is above it. */
  private static void outOfRange() {
    for (char digit = '0'; digit <= '9'; digit++) {
      boolean isKindOrGood = digit <= '5';
      tells(isKindOrGood ? 1 : -2000, "s" + digit + "0000;");
      tells(1, "s0" + digit + "000;");
      tells(isKindOrGood ? 1 : -2000, "s00" + digit + "00;");
      tells(1, "s000" + digit + "0;");
      tells(1, "s0000" + digit + ";");
      tells(isKindOrGood ? 1 : -2000, "t" + digit + "00;");
      tells(1, "t0" + digit + "0;");
      tells(1, "t00" + digit + ";");
      tells(isKindOrGood ? 1 : -2000, "u" + digit + "0;");
      tells(1, "u0" + digit + ";");
      tells(isKindOrGood ? 1 : -2000, "h" + digit + "00;");
      tells(1, "c" + digit + "0;");
      tells(1, "c0" + digit + ";");
      tells(digit == '0' ? 1 : -2000, "o" + digit + ";", BRIDE_IN);
    }
    tells(-2000, "s00699;");
    tells(-2000, "s60099;");
    tells(-2004, "c00;t600;");
    tells(-2004, "c00;t600;u60;");
  }

  /** "d" DAYS (2 digits, 1 .. 60); "DAY above 999". */
  private static void daysInLetters() {
    tells(-2000, "d00;");
    tells(1, "d01;");
    tells(1, "d59;");
    tells(1, "d60;");
    tells(-2000, "d61;");
    tells(-2000, "d70;");
    tells(-2000, "d99;");
    tells(1, "d60;", Due.days(939));
    tells(-2000, "d60;", Due.days(940));
    tells(1, "d59;", Due.days(940));
    tells(1, "d01;", Due.days(998));
    tells(-2000, "d02;", Due.days(998));
    tells(-2000, "d01;", Due.days(999));
    tells(-2000, "d00;", Due.days(999));
    tells(1, "c00;", Due.days(999));
    tells(-2004, "d01;d01;", Due.days(998));
    tells(2, "d60;d39;", Due.days(900));
    tells(-2004, "d60;d40;", Due.days(900));
    tells(-2004, "d40;d60;", Due.days(900));
    due.is("the last DAY", 999, Due.town(Due.days(900), "d60;d39;").count(1));
  }

  /** "h" a GOOD, how many: "more than is THERE, HIDDEN above 99". */
  private static void hiddenInLetters() {
    tells(1, "h000;");
    tells(1, "h020;");
    tells(-2000, "h021;");
    tells(-2000, "h099;");
    tells(1, "h599;", "t599;");
    tells(-2000, "h599;", "t598;");
    tells(1, "h500;", "t500;");
    tells(-2000, "h501;", "t500;");
    tells(1, "h501;", "t598;h598;t501;");
    tells(-2000, "h502;", "t598;h598;t502;");
    tells(-2000, "h001;", "t099;h099;t001;");
    tells(1, "h000;", "t099;h099;t001;");
    tells(1, "h101;", "t099;h099;t001;");
    TakesWhatItLacks x = Due.town("h020;");
    due.is("all that is THERE is HIDDEN", 0, x.good(0, 0));
    due.is("HIDDEN", 20, x.good(0, 2));
    due.is("of another none", 0, x.good(1, 2));
  }

  /** "o" a SHIP: "it is OUT again": "no such one", "one that is OUT". */
  private static void outAgainInLetters() {
    tells(-2000, "o0;");
    tells(-2000, "o0;", "s10000;");
    tells(1, "o0;", "s10000;d01;");
    tells(-2000, "o1;", "s10000;d01;");
    tells(-2003, "o0;o0;", "s10000;d01;");
    tells(3, "o0;d01;o0;", "s10000;d01;");
    String seven = "s10000;".repeat(7);
    tells(7, "o0;o1;o2;o3;o4;o5;o6;", seven, "d01;");
    tells(-2003, "o6;o7;", seven, "d01;");
    tells(-2003, "o6;o9;", seven, "d01;");
    TakesWhatItLacks x = Due.town(seven, "d01;", "o6;");
    due.is("the last is OUT", 63, x.count(3));
    due.is("its LOAD is as it was", 0, x.shipOf(6, 3));
    TakesWhatItLacks y = Due.town("s10377;d01;o0;");
    due.is("OUT again", 0, y.shipOf(0, 4));
    due.is("with the LOAD it had", 77, y.shipOf(0, 3));
  }

  /** "no room": of SHIPS, told in one text or come ahead of it. */
  private static void noRoom() {
    tells(7, "s00000;".repeat(7));
    tells(-2049, "s00000;".repeat(8));
    tells(-2049, "s00000;".repeat(9));
    tells(1, "s00000;", "s00000;".repeat(6));
    tells(-2007, "s00000;s00000;", "s00000;".repeat(6));
    tells(-2000, "s00000;", "s00000;".repeat(7));
    tells(1, "c00;", "s00000;".repeat(7));
    TakesWhatItLacks x = new TakesWhatItLacks();
    for (int i = 0; i < 7; i++) {
      x.ship(i % 6, 0, 0, 0);
    }
    due.is("an eighth behind seven by ship()", -2004, Due.tell(x, "c01;s00000;"));
    due.is("seven SHIPS", 7, x.count(0));
    due.is("and no COUGHS", 0, x.count(2));
  }

  /** "the first STATEMENT that, behind all ahead of it in the text, is not as it must be". */
  private static void behindAllAheadOfIt() {
    tells(2, "t021;h021;");
    tells(-2000, "h021;t021;");
    tells(-2005, "h020;h001;");
    tells(3, "h020;t001;h001;");
    tells(-2015, "t099;h099;t001;h001;");
    tells(3, "s10000;d01;o0;");
    tells(-2007, "s10000;o0;d01;");
    tells(-2000, "o0;s10000;d01;");
    tells(-2014, "s10000;d01;o0;o0;");
    // What a SHIP BRINGS and what is USED count for what is THERE: 30 by a BALLAST, 2 less than 20 in a DAY.
    tells(5, "t000;u00;s20030;d01;h030;");
    tells(-2020, "t000;u00;s20030;d01;h031;");
    tells(2, "d01;h018;");
    tells(-2004, "d01;h019;");
    tells(3, "u09;d02;h002;");
    tells(-2008, "u09;d02;h003;");
    // The first one counts, of several.
    tells(-2000, "d00;d00;");
    tells(-2004, "d01;o0;o1;");
  }

  // ---- promise 3: what comes of it

  private static long[] allOf(TakesWhatItLacks x) {
    long[] all = new long[24 + 56 + 8];
    int at = 0;
    for (int good = 0; good < 6; good++) {
      for (int what = 0; what < 4; what++) {
        all[at++] = x.good(good, what);
      }
    }
    for (int ship = 0; ship < x.count(0); ship++) {
      for (int what = 0; what < 8; what++) {
        all[at++] = x.shipOf(ship, what);
      }
    }
    for (int what = 0; what < 8; what++) {
      all[at++] = x.count(what);
    }
    return all;
  }

  /** "Without FAULT all of it comes, with one nothing." */
  private static void allOrNothing() {
    String ahead = "s20431;t377;u38;h305;c44;o0;d03;";
    String[] faults = {"x", ";", "c", "c0", "c00", "t600;", "u60;", "h600;", "o9;", "d00;", "s60000;", "c00;d61;"};
    for (String fault : faults) {
      TakesWhatItLacks x = brideIn();
      x.hides(0, 3);
      x.row(7);
      long[] was = allOf(x);
      due.is("a FAULT: " + ahead + fault, 1, Due.tell(x, ahead + fault) <= -1000 ? 1 : 0);
      due.is("nothing comes of it: " + ahead + fault, 1, java.util.Arrays.equals(was, allOf(x)) ? 1 : 0);
      due.is("and it can be TAKEN BACK still", 0, x.back());
      due.is("what was HIDDEN", 0, x.hidden());
    }
    TakesWhatItLacks x = brideIn();
    x.hides(0, 3);
    due.is("without FAULT", 7, Due.tell(x, ahead));
    due.is("SHIPS", 2, x.count(0));
    due.is("KIND", 2, x.shipOf(1, 0));
    due.is("FIGURE", 0, x.shipOf(1, 1));
    due.is("GOOD", 4, x.shipOf(1, 2));
    due.is("LOAD", 31, x.shipOf(1, 3));
    due.is("THERE of 3, of 77 less 5 HIDDEN and 24 USED", 48, x.good(3, 0));
    due.is("USED of 3", 8, x.good(3, 1));
    due.is("HIDDEN of 3", 5, x.good(3, 2));
    due.is("HIDDEN of 0 as it was", 3, x.good(0, 2));
    // 15 of 0 were THERE: 13, 11, 9 behind the three DAYS, below 14: a COUGH each.
    due.is("COUGHS, 44 and 3", 47, x.count(2));
    due.is("DAY", 4, x.count(1));
    due.is("who is IN, the first one again", 3, x.count(3));
    due.is("none can be TAKEN BACK", 0, x.count(7));
  }

  /** "96 at most" in a text: the most STATEMENTS of one length, and a FAULT at its very end. */
  private static void fullOfLetters() {
    tells(24, "c01;".repeat(24));
    tells(-1095, "c01;".repeat(23) + "c01");
    tells(-1096, "c01;".repeat(23) + "t000");
    tells(-1095, "c01;".repeat(23) + "c01:");
    tells(-2092, "c01;".repeat(23) + "d00;");
    tells(-1092, "c01;".repeat(23) + "x");
    tells(-1096, "c01;".repeat(22) + "s00000;c");
    tells(18, "s00000;".repeat(7) + "c01;".repeat(11));
    TakesWhatItLacks seven = Due.town("s10000;".repeat(7), "d01;");
    due.is("96 letters with a FAULT at the last", -2093,
        Due.tell(seven, "o0;o1;o2;o3;o4;o5;o6;" + "c01;".repeat(18) + "o0;"));
    due.is("nothing of it", 127, seven.count(3));
    due.is("96 letters in 26 STATEMENTS", 26,
        Due.tell(seven, "o0;o1;o2;o3;o4;o5;o6;" + "c01;".repeat(17) + "d01;" + "o0;"));
    due.is("who is IN behind them", 126, seven.count(3));
    TakesWhatItLacks x = new TakesWhatItLacks();
    for (int i = 0; i < 24; i++) {
      for (char letter : "c02;".toCharArray()) {
        x.feed(letter);
      }
    }
    due.is("a 97th letter is refused", -6, x.feed('c'));
    due.is("and the 96 are a HARBOUR still", 24, x.harbour());
    due.is("COUGHS", 2, x.count(2));
  }

  /** "The letters, which are no more then (with a FAULT neither)". */
  private static void noMoreThen() {
    TakesWhatItLacks x = new TakesWhatItLacks();
    due.is("a HARBOUR", 1, Due.tell(x, "c05;"));
    due.is("no letters", 0, x.count(5));
    due.is("again, of none", -1000, x.harbour());
    due.is("a FAULT of kind 1", -1002, Due.tell(x, "c0"));
    due.is("no letters then", 0, x.count(5));
    due.is("they do not go on", -1000, Due.tell(x, "6;"));
    due.is("a FAULT of kind 2", -2000, Due.tell(x, "d00;"));
    due.is("no letters of that", 0, x.count(5));
    due.is("nor of that", -1000, x.harbour());
    due.is("COUGHS", 5, x.count(2));
    x.feed('c');
    x.feed('0');
    x.image();
    x.restore();
    x.days(1);
    x.feed('9');
    x.feed(';');
    due.is("letters stay through all else", 1, x.harbour());
    due.is("COUGHS of it", 9, x.count(2));
  }

  /** What each STATEMENT tells, at the least and the greatest of its numbers. */
  private static void leastAndGreatest() {
    TakesWhatItLacks x = Due.town("s00000;s59599;");
    int[][] numbers = {{0, 0, 0, 0, 0}, {5, 9, 5, 99, 0}};
    for (int ship = 0; ship < 2; ship++) {
      for (int what = 0; what < 5; what++) {
        due.is("shipOf(" + ship + ", " + what + ")", numbers[ship][what], x.shipOf(ship, what));
      }
    }
    TakesWhatItLacks y = Due.town("t000;t599;u00;u59;c99;");
    due.is("t000", 0, y.good(0, 0));
    due.is("t599", 99, y.good(5, 0));
    due.is("u00", 0, y.good(0, 1));
    due.is("u59", 9, y.good(5, 1));
    due.is("c99", 99, y.count(2));
    due.is("the others are as they were", 20, y.good(4, 0));
    due.is("and USED of them", 2, y.good(4, 1));
    due.is("c00", 1, Due.tell(y, "c00;"));
    due.is("no COUGHS", 0, y.count(2));
    TakesWhatItLacks z = Due.town("t099;h050;t099;");
    due.is("THERE anew leaves what is HIDDEN", 50, z.good(0, 2));
    due.is("THERE anew", 99, z.good(0, 0));
    due.is("d60", 1, Due.tell(z, "d60;"));
    due.is("DAY", 60, z.count(1));
  }

  public static void main(String[] args) {
    feed();
    somethingLacks();
    eachLetterWrong();
    atLeastOne();
    kind1AheadOfKind2();
    outOfRange();
    daysInLetters();
    hiddenInLetters();
    outAgainInLetters();
    noRoom();
    behindAllAheadOfIt();
    allOrNothing();
    fullOfLetters();
    noMoreThen();
    leastAndGreatest();
    due.end("LettersEdgeTest");
  }
}
