/**
 * Terms I but for the letters, and promises 1, 4 to 12: each sentence that names a boundary case, with answers reckoned
 * from its words. The sentence stands above its test.
 */
final class TownEdgeTest {
  private static final String NOTHING_USED = "u00;u10;u20;u30;u40;u50;";
  private static final Due due = new Due();

  private static String two(int number) {
    return "" + number / 10 + number % 10;
  }

  // ---- what there is, least and greatest

  /** "GOODS 0 .. 5: THERE (0 .. 99; 20 at first), USED a DAY (0 .. 9; 2 at first), HIDDEN (0 .. 99; 0 at first)." */
  private static void goods() {
    TakesWhatItLacks x = new TakesWhatItLacks();
    TakesWhatItLacks least = Due.town("t000;u00;t500;u50;");
    TakesWhatItLacks greatest = Due.town("t099;h099;t099;u09;t599;h599;t599;u59;");
    for (int good = 0; good <= 5; good++) {
      due.is("THERE of " + good + " at first", 20, x.good(good, 0));
      due.is("USED of " + good + " at first", 2, x.good(good, 1));
      due.is("HIDDEN of " + good + " at first", 0, x.good(good, 2));
    }
    for (int good = 0; good <= 5; good += 5) {
      due.is("the least THERE of " + good, 0, least.good(good, 0));
      due.is("the least USED of " + good, 0, least.good(good, 1));
      due.is("the greatest THERE of " + good, 99, greatest.good(good, 0));
      due.is("the greatest USED of " + good, 9, greatest.good(good, 1));
      due.is("the greatest HIDDEN of " + good, 99, greatest.good(good, 2));
    }
    due.is("THERE of the one ahead of the last, untouched", 20, greatest.good(4, 0));
  }

  /** "COUGHS (0 .. 99; 0 at first)", "DAY (0 .. 999; 0 at first)". */
  private static void coughsAndDay() {
    TakesWhatItLacks x = new TakesWhatItLacks();
    due.is("COUGHS at first", 0, x.count(2));
    due.is("DAY at first", 0, x.count(1));
    due.is("the greatest COUGHS", 99, Due.town("c99;").count(2));
    due.is("the least COUGHS, again", 0, Due.town("c99;c00;").count(2));
    due.is("the greatest DAY", 999, Due.town(Due.days(999)).count(1));
    due.is("the DAY ahead of it", 998, Due.town(Due.days(998)).count(1));
  }

  /** "SHIPS 0 .. 6 as they come (7 at most)", "a FIGURE (0 .. 9), a GOOD, a LOAD (0 .. 99), OUT (at first) or IN." */
  private static void ships() {
    TakesWhatItLacks x = new TakesWhatItLacks();
    due.is("No SHIPS", 0, x.count(0));
    due.is("not even the first", -1, x.shipOf(0, 0));
    for (int i = 0; i < 7; i++) {
      int kind = i % 6;
      due.is("the SHIP that comes as " + i, i, x.ship(kind, i == 6 ? 9 : i, i % 6, i == 6 ? 99 : i));
      due.is("as many SHIPS as came", i + 1, x.count(0));
      due.is("OUT at first, SHIP " + i, 0, x.shipOf(i, 4));
      due.is("no SHIP behind the last, " + (i + 1), -1, x.shipOf(i + 1, 0));
    }
    for (int i = 0; i < 7; i++) {
      due.is("KIND of SHIP " + i, i % 6, x.shipOf(i, 0));
      due.is("FIGURE of SHIP " + i, i == 6 ? 9 : i, x.shipOf(i, 1));
      due.is("GOOD of SHIP " + i, i % 6, x.shipOf(i, 2));
      due.is("LOAD of SHIP " + i, i == 6 ? 99 : i, x.shipOf(i, 3));
    }
    due.is("an eighth", -6, x.ship(0, 0, 0, 0));
    due.is("seven still", 7, x.count(0));
    TakesWhatItLacks one = new TakesWhatItLacks();
    for (int i = 0; i < 7; i++) {
      due.is("one behind those that are IN, SHIP " + i, i, one.ship(1, 0, 0, 0));
      due.is("OUT at first, those are IN, SHIP " + i, 0, one.shipOf(i, 4));
      due.is("IN, all of them behind SHIP " + i, i + 1, one.days(1));
    }
  }

  // ---- LACK, TIDE, DRAWS, SINKS, DEPTH

  /** "7 times what is USED of it less what is THERE (0 at least; what is HIDDEN does not count)." */
  private static void lack() {
    int[][] usedThereLack = {
      {0, 0, 0}, {0, 99, 0}, {1, 0, 7}, {1, 6, 1}, {1, 7, 0}, {1, 8, 0}, {2, 13, 1}, {2, 14, 0}, {2, 15, 0},
      {9, 0, 63}, {9, 1, 62}, {9, 62, 1}, {9, 63, 0}, {9, 64, 0}, {9, 99, 0},
    };
    for (int[] row : usedThereLack) {
      for (int good = 0; good <= 5; good += 5) {
        TakesWhatItLacks x = Due.town("u" + good + row[0] + ";t" + good + two(row[1]) + ";");
        due.is("LACK of " + good + ", USED " + row[0] + ", THERE " + row[1], row[2], x.good(good, 3));
      }
    }
    TakesWhatItLacks x = Due.town("u09;t063;");
    due.is("hides(0, 1)", 62, x.hides(0, 1));
    due.is("what is HIDDEN does not count", 1, x.good(0, 3));
    due.is("hides(0, 62)", 0, x.hides(0, 62));
    due.is("nor if all of it is HIDDEN", 63, x.good(0, 3));
  }

  /** "TIDE of a DAY: how far DAY modulo 8 is from 4, less than 4: 4 on it, 0 at 0." */
  private static void tide() {
    int[] eight = {0, 1, 2, 3, 4, 3, 2, 1};
    TakesWhatItLacks x = new TakesWhatItLacks();
    for (int n = 0; n <= 60; n++) {
      due.is("TIDE of DAY " + n + " in " + n + " DAYS", eight[n % 8], x.tide(n));
    }
    for (int day = 1; day <= 17; day++) {
      x.days(1);
      due.is("TIDE of DAY " + day + " today", eight[day % 8], x.tide(0));
    }
    TakesWhatItLacks last = Due.town(Due.days(992));
    due.is("TIDE of DAY 992, 8 times 124", 0, last.tide(0));
    due.is("TIDE of DAY 996", 4, last.tide(4));
    due.is("TIDE of DAY 999", 1, last.tide(7));
    last.days(7);
    due.is("TIDE of DAY 999 today", 1, last.tide(0));
    due.is("TIDE of DAY 1000, which is in mind alone", 0, last.tide(1));
    due.is("TIDE of DAY 1001", 1, last.tide(2));
    due.is("TIDE of DAY 1004", 4, last.tide(5));
    due.is("TIDE of DAY 1059", 3, last.tide(60));
  }

  /** "SHIP FIGURE plus 3; BRIDE 1; BALLAST half of FIGURE, cut, plus 2; DOCTOR 2; MIXED 1 more; SMUGGLER half, cut." */
  private static void draws() {
    int[][] byKindAndFigure = {
      {3, 4, 5, 6, 7, 8, 9, 10, 11, 12},
      {1, 1, 1, 1, 1, 1, 1, 1, 1, 1},
      {2, 2, 3, 3, 4, 4, 5, 5, 6, 6},
      {2, 2, 2, 2, 2, 2, 2, 2, 2, 2},
      {4, 5, 6, 7, 8, 9, 10, 11, 12, 13},
      {2, 2, 3, 3, 4, 4, 5, 5, 6, 6},
    };
    for (int kind = 0; kind < 6; kind++) {
      for (int figure = 0; figure < 10; figure++) {
        TakesWhatItLacks x = Due.town("s" + kind + figure + "000;");
        due.is("DRAWS, KIND " + kind + ", FIGURE " + figure, byKindAndFigure[kind][figure], x.shipOf(0, 5));
      }
    }
  }

  private static void sinks(int want, String ship, String... texts) {
    TakesWhatItLacks x = Due.town(texts);
    Due.tell(x, ship);
    due.is("SINKS for " + ship + " in " + String.join(" ", texts), want, x.shipOf(0, 6));
    due.is("DEPTH at TIDE 0 for " + ship + " in " + String.join(" ", texts), want, x.shipOf(0, 7));
  }

  /** "SHIP a third, cut, of the LACK of its GOOD"; "BRIDE 9". */
  private static void sinksForShipAndBride() {
    int[][] thereSinks = {{99, 0}, {63, 0}, {62, 0}, {61, 0}, {60, 1}, {59, 1}, {58, 1}, {57, 2}, {4, 19}, {3, 20},
      {1, 20}, {0, 21}};
    for (int[] row : thereSinks) {
      sinks(row[1], "s00000;", "u09;t0" + two(row[0]) + ";");
      sinks(row[1], "s09500;", "u59;t5" + two(row[0]) + ";");
      sinks(9, "s10000;", "u09;t0" + two(row[0]) + ";");
    }
  }

  /** "BALLAST how many GOODS are not LACKED". */
  private static void sinksForBallast() {
    String lacked = "";
    for (int many = 6; many >= 0; many--) {
      sinks(many, "s20000;", "c00;" + lacked);
      if (many > 0) {
        lacked += "t" + (many - 1) + "13;";
      }
    }
    sinks(6, "s29500;", "t014;t114;t214;t314;t414;t514;");
    sinks(5, "s29500;", "t014;t114;t214;t314;t414;t513;");
    sinks(5, "s29500;", "t013;t114;t214;t314;t414;t514;");
  }

  /** "DOCTOR COUGHS over 9, cut". */
  private static void sinksForDoctor() {
    int[][] coughsSinks = {{0, 0}, {8, 0}, {9, 1}, {10, 1}, {17, 1}, {18, 2}, {89, 9}, {90, 10}, {98, 10}, {99, 11}};
    for (int[] row : coughsSinks) {
      sinks(row[1], "s30000;", "c" + two(row[0]) + ";");
    }
  }

  /** "MIXED as a SHIP, plus a third, cut, of the LACK of the GOOD behind its own (behind 5: 0)". */
  private static void sinksForMixed() {
    int[][] ownBehindSinks = {{0, 0, 0}, {2, 2, 0}, {3, 2, 1}, {2, 3, 1}, {3, 3, 2}, {1, 5, 1}, {0, 63, 21}, {63, 0, 21},
      {63, 63, 42}};
    for (int[] row : ownBehindSinks) {
      for (int good = 0; good <= 5; good++) {
        int behind = new int[] {1, 2, 3, 4, 5, 0}[good];
        String text = "u" + good + "9;u" + behind + "9;t" + good + two(63 - row[0]) + ";t" + behind + two(63 - row[1]) + ";";
        sinks(row[2], "s40" + good + "00;", text);
        sinks(row[2], "s50" + good + "00;", text);
      }
    }
    sinks(0, "s40100;", "t000;");
    sinks(0, "s40000;", "t500;t200;");
  }

  /** "SMUGGLER as a MIXED one, plus HIDDEN of its GOOD over 10, cut." */
  private static void sinksForSmuggler() {
    int[][] hiddenSinks = {{0, 0}, {9, 0}, {10, 1}, {11, 1}, {19, 1}, {20, 2}, {89, 8}, {90, 9}, {99, 9}};
    for (int[] row : hiddenSinks) {
      for (int good = 0; good <= 5; good++) {
        String text = "t" + good + "99;h" + good + two(row[0]) + ";t" + good + "99;";
        sinks(row[1], "s50" + good + "00;", text);
        sinks(0, "s40" + good + "00;", text);
      }
    }
    sinks(0, "s50000;", "t199;h199;t199;t599;h599;t599;");
    sinks(0, "s50500;", "t099;h099;t099;t499;h499;t499;");
    sinks(2, "s50000;", "u09;t060;h010;t060;");
  }

  /** "DEPTH for a SHIP: TIDE plus what the bar SINKS" (of one that is IN, too), about the DAYS on which TIDE begins anew. */
  private static void depth() {
    TakesWhatItLacks x = Due.town(NOTHING_USED, "s10000;s00000;");
    int[] tides = {0, 1, 2, 3, 4, 3, 2, 1, 0, 1};
    for (int day = 0; day < tides.length; day++) {
      due.is("DEPTH for a BRIDE on DAY " + day, 9 + tides[day], x.shipOf(0, 7));
      due.is("SINKS for a BRIDE on DAY " + day, 9, x.shipOf(0, 6));
      due.is("DEPTH for a SHIP on DAY " + day, tides[day], x.shipOf(1, 7));
      due.is("DRAWS of a SHIP on DAY " + day, 3, x.shipOf(1, 5));
      x.days(1);
    }
  }

  // ---- a DAY

  private static void comesIn(int day, String ship, String... texts) {
    TakesWhatItLacks x = Due.town(texts);
    int from = x.count(1);
    Due.tell(x, ship);
    String told = ship + " in " + String.join(" ", texts);
    for (int today = from; today <= day; today++) {
      due.is(told + ": IN ahead of DAY " + today, 0, x.shipOf(0, 4));
      due.is(told + ": days(1) on DAY " + today, today == day ? 1 : 0, x.days(1));
    }
    due.is(told + ": IN behind DAY " + day, 1, x.shipOf(0, 4));
  }

  /** "each that is OUT, for which TIDE plus what the bar SINKS is as much as it DRAWS or more, is IN". */
  private static void asMuchAsItDraws() {
    // SHIP of FIGURE 0, DRAWS 3: a LACK of 9 SINKS as much, 8 a third less; nothing USED leaves LACK to TIDE alone.
    comesIn(0, "s00100;", NOTHING_USED, "u12;t105;");
    comesIn(1, "s00100;", NOTHING_USED, "u12;t106;");
    comesIn(3, "s00100;", NOTHING_USED);
    comesIn(4, "s01100;", NOTHING_USED);
    comesIn(0, "s00100;", NOTHING_USED, "u19;t100;");
    // FIGURE 9, DRAWS 12: a LACK of 36, on DAY 0; with 28 THERE 9 more are LACKED a DAY later, 14 and TIDE 1.
    comesIn(0, "s09100;", NOTHING_USED, "u19;t127;");
    comesIn(1, "s09100;", NOTHING_USED, "u19;t128;");
    comesIn(0, "s10100;", NOTHING_USED);
    comesIn(0, "s19100;", NOTHING_USED, "u19;t100;");
    // BALLAST: FIGURE 9 DRAWS 6, as many as are not LACKED; of five it comes on DAY 1.
    comesIn(0, "s29100;", NOTHING_USED);
    comesIn(1, "s29100;", NOTHING_USED, "u11;t106;");
    comesIn(0, "s20100;", NOTHING_USED);
    // DOCTOR DRAWS 2: COUGHS of 18, or of 9 at TIDE 1, or none at TIDE 2.
    comesIn(0, "s39100;", NOTHING_USED, "c18;");
    comesIn(1, "s39100;", NOTHING_USED, "c17;");
    comesIn(1, "s39100;", NOTHING_USED, "c09;");
    comesIn(2, "s39100;", NOTHING_USED, "c08;");
    comesIn(0, "s30100;", NOTHING_USED, "c99;");
    // MIXED of FIGURE 0 DRAWS 4: a LACK of 3 and one of 9; on DAY 4, at TIDE 4, without any LACK.
    comesIn(0, "s40100;", NOTHING_USED, "u11;t104;u22;t205;");
    comesIn(4, "s40100;", NOTHING_USED);
    comesIn(0, "s40500;", NOTHING_USED, "u51;t504;u02;t005;");
    // SMUGGLER of FIGURE 0 DRAWS 2: 20 HIDDEN, or 10 at TIDE 1, or none at TIDE 2.
    comesIn(0, "s50100;", NOTHING_USED, "h120;");
    comesIn(1, "s50100;", NOTHING_USED, "h119;");
    comesIn(1, "s50100;", NOTHING_USED, "h110;");
    comesIn(2, "s50100;", NOTHING_USED, "h109;");
    // TIDE begins anew behind DAY 7: one that DRAWS 4 and comes on DAY 7 or 8 waits for DAY 12.
    comesIn(12, "s01100;", NOTHING_USED, "d07;");
    comesIn(12, "s01100;", NOTHING_USED, "d08;");
    comesIn(11, "s00100;", NOTHING_USED, "d06;");
    comesIn(5, "s00100;", NOTHING_USED, "d05;");
    comesIn(996, "s01100;", NOTHING_USED, Due.days(989));
  }

  private static void notYet(String ship, int days, String... texts) {
    TakesWhatItLacks x = Due.town(texts);
    Due.tell(x, ship);
    due.is(ship + " in " + String.join(" ", texts) + " behind " + days, 0, x.days(days));
  }

  /** One less than it DRAWS, on each of the DAYS. */
  private static void lessThanItDraws() {
    notYet("s02100;", 60, NOTHING_USED);
    notYet("s41100;", 60, NOTHING_USED);
    notYet("s00100;", 3, NOTHING_USED);
    notYet("s40100;", 1, NOTHING_USED, "u11;t104;u22;t206;");
    notYet("s40100;", 1, NOTHING_USED, "u11;t105;u22;t205;");
    notYet("s40500;", 1, NOTHING_USED, "u51;t504;u02;t006;");
    notYet("s30100;", 2, NOTHING_USED, "c08;");
    notYet("s50100;", 2, NOTHING_USED, "h109;");
  }

  /** "SHIPS by numbers", "it BRINGS what it does (at once)", "In a DAY each SHIP that comes IN BRINGS at once, ahead of the next one." */
  private static void oneAheadOfTheNext() {
    // LACK 43, DRAWS 12: 7 BROUGHT leave 36, as much as the next one needs; 8 leave 35, a third of it 11.
    due.is("the next one, behind 7", 2, Due.town("u09;s09007;s09000;").days(1));
    due.is("the next one, behind 8", 1, Due.town("u09;s09008;s09000;").days(1));
    TakesWhatItLacks x = Due.town("u09;s09007;s09001;s09000;");
    due.is("the third, behind 7 and 1", 2, x.days(1));
    due.is("who is IN", 3, x.count(3));
    TakesWhatItLacks y = Due.town("u09;s09008;s09000;d01;");
    due.is("not by numbers from behind", 1, y.count(3));
    // A BALLAST has LACK filled by the SHIP ahead of it, not by the one behind it.
    due.is("LACK of 1 filled ahead of a BALLAST that DRAWS 6", 3, Due.town("u19;t162;s20101;s29100;d01;").count(3));
    due.is("LACK of 1 filled behind it", 2, Due.town("u19;t162;s29100;s20101;d01;").count(3));
    // All seven in one DAY.
    TakesWhatItLacks all = Due.town("s10000;s10000;s10000;s10000;s10000;s10000;s10000;");
    due.is("all seven in one DAY", 7, all.days(1));
    due.is("who is IN, all seven", 127, all.count(3));
  }

  private static void brings(String ship, int good, int there, int behindOne, int own, int behind) {
    int other = (good + 1) % 6;
    TakesWhatItLacks x = Due.town(NOTHING_USED, "c99;u" + good + "9;t" + good + two(there) + ";t" + other + two(behindOne)
        + ";d04;t" + good + two(there) + ";t" + other + two(behindOne) + ";u" + other + "9;");
    Due.tell(x, ship);
    Due.tell(x, "d01;");
    String told = ship + " on " + there + " and " + behindOne;
    due.is(told + ": IN", 1, x.count(3));
    due.is(told + ": THERE of its GOOD, 9 USED", own, x.good(good, 0));
    due.is(told + ": THERE of the one behind, 9 USED", behind, x.good(other, 0));
  }

  /** "BRINGS (of its GOOD): SHIP its LOAD; BRIDE 0; MIXED half of it, cut, and of the GOOD behind it the rest; others as under". */
  private static void brings() {
    for (int good = 0; good <= 5; good++) {
      brings("s00" + good + "00;", good, 20, 20, 11, 11);
      brings("s00" + good + "01;", good, 20, 20, 12, 11);
      brings("s00" + good + "99;", good, 0, 20, 90, 11);
      brings("s10" + good + "99;", good, 20, 20, 11, 11);
      brings("s20" + good + "31;", good, 20, 20, 42, 11);
      brings("s30" + good + "31;", good, 20, 20, 42, 11);
      brings("s40" + good + "00;", good, 20, 20, 11, 11);
      brings("s40" + good + "01;", good, 20, 20, 11, 12);
      brings("s40" + good + "02;", good, 20, 20, 12, 12);
      brings("s40" + good + "99;", good, 20, 20, 60, 61);
      brings("s50" + good + "01;", good, 20, 20, 11, 12);
      brings("s50" + good + "99;", good, 0, 0, 40, 41);
    }
  }

  /** "THERE is 99 at most." It is so as soon as a SHIP BRINGS; what is USED is less behind that. */
  private static void thereAtMost() {
    brings("s00178;", 1, 20, 20, 89, 11);
    brings("s00179;", 1, 20, 20, 90, 11);
    brings("s00180;", 1, 20, 20, 90, 11);
    brings("s00199;", 1, 60, 20, 90, 11);
    brings("s40199;", 1, 49, 49, 89, 90);
    brings("s40199;", 1, 50, 50, 90, 90);
    brings("s40199;", 1, 51, 51, 90, 90);
    brings("s50599;", 5, 60, 60, 90, 90);
    TakesWhatItLacks x = Due.town(NOTHING_USED, "t099;s20099;");
    due.is("99 on 99, none USED", 1, x.days(1));
    due.is("THERE is 99 still", 99, x.good(0, 0));
  }

  /** "a DOCTOR takes 9 COUGHS away besides (0 at least)". */
  private static void doctors() {
    int[][] coughs = {{0, 0}, {1, 0}, {8, 0}, {9, 0}, {10, 1}, {18, 9}, {98, 89}, {99, 90}};
    for (int[] row : coughs) {
      TakesWhatItLacks x = Due.town(NOTHING_USED, "d04;c" + two(row[0]) + ";s30105;");
      due.is("a DOCTOR at COUGHS " + row[0], 1, x.days(1));
      due.is("COUGHS behind him, from " + row[0], row[1], x.count(2));
      due.is("he BRINGS besides", 25, x.good(1, 0));
    }
    // DRAWS 2 at TIDE 0: the first leaves 9 of 18, for which the bar SINKS 1; of 27 he leaves 18.
    due.is("the next DOCTOR, behind 18", 1, Due.town(NOTHING_USED, "c18;s30000;s30000;").days(1));
    due.is("the next DOCTOR, behind 26", 1, Due.town(NOTHING_USED, "c26;s30000;s30000;").days(1));
    due.is("the next DOCTOR, behind 27", 2, Due.town(NOTHING_USED, "c27;s30000;s30000;").days(1));
    // What is taken away goes ahead of the COUGH that the DAY makes.
    due.is("9 less and 1 more, from 99", 91, Due.town("u09;c99;s30100;d01;").count(2));
    due.is("0 at least, and then 1 more", 1, Due.town("d04;u09;c05;s30100;d01;").count(2));
  }

  /** "then of each GOOD what is USED is less THERE (0 at least)". */
  private static void used() {
    int[][] thereUsedBehind = {{0, 0, 0}, {0, 9, 0}, {8, 9, 0}, {9, 9, 0}, {10, 9, 1}, {1, 1, 0}, {99, 9, 90}, {99, 0, 99}};
    for (int[] row : thereUsedBehind) {
      for (int good = 0; good <= 5; good++) {
        TakesWhatItLacks x = Due.town(NOTHING_USED, "t" + good + two(row[0]) + ";u" + good + row[1] + ";d01;");
        due.is("THERE of " + good + ", " + row[0] + " less " + row[1], row[2], x.good(good, 0));
        due.is("THERE of another than " + good, 20, x.good((good + 1) % 6, 0));
      }
    }
    due.is("HIDDEN ones are not USED", 20, Due.town("h020;d60;").good(0, 2));
  }

  /** "a DAY with some LACK of GOOD 0 behind that makes 1 COUGH more (99 at most)". */
  private static void coughs() {
    // 9 USED: of 72 there are 63 behind the DAY, no LACK; of 71 a LACK of 1.
    due.is("no LACK behind the DAY", 0, Due.town("u09;t072;d01;").count(2));
    due.is("a LACK of 1 behind the DAY, none ahead of it", 1, Due.town("u09;t071;d01;").count(2));
    due.is("a LACK ahead of the DAY alone", 0, Due.town("u02;t000;s20099;d01;").count(2));
    due.is("LACK of all GOODS but 0", 0, Due.town("u00;u19;u29;u39;u49;u59;d60;").count(2));
    due.is("98 and one more", 99, Due.town("u09;c98;d01;").count(2));
    due.is("99 at most", 99, Due.town("u09;c99;d01;").count(2));
    due.is("99 at most, in 60 DAYS", 99, Due.town("u09;c50;d60;").count(2));
    due.is("49 and 50 more", 99, Due.town("u09;c49;d50;").count(2));
    due.is("49 and 49 more", 98, Due.town("u09;c49;d49;").count(2));
  }

  // ---- promises 8 to 12: what changes

  /** "So many of a GOOD are HIDDEN (below 0: so many are THERE again): THERE. -3 it is not so many (THERE; HIDDEN; above 99 then)." */
  private static void hides() {
    TakesWhatItLacks x = new TakesWhatItLacks();
    due.is("one more than is THERE", -3, x.hides(5, 21));
    due.is("none is HIDDEN, not one THERE again", -3, x.hides(5, -1));
    due.is("nothing is HIDDEN by these", 0, x.good(5, 2));
    due.is("all that is THERE", 0, x.hides(5, 20));
    due.is("all are HIDDEN", 20, x.good(5, 2));
    due.is("one of none THERE", -3, x.hides(5, 1));
    due.is("one more than is HIDDEN", -3, x.hides(5, -21));
    due.is("all THERE again", 20, x.hides(5, -20));
    due.is("none is HIDDEN again", 0, x.good(5, 2));
    due.is("0 of it", 20, x.hides(5, 0));
    for (int n = 1; n <= 20; n++) {
      due.is("hides(5, " + n + ")", 20 - n, x.hides(5, n));
      due.is("HIDDEN, " + n, n, x.good(5, 2));
      due.is("hides(5, " + (-n - 1) + ")", -3, x.hides(5, -n - 1));
      due.is("hides(5, " + -n + ")", 20, x.hides(5, -n));
      due.is("HIDDEN no more", 0, x.good(5, 2));
    }
    for (int good = 0; good <= 5; good++) {
      hidesAtMost(good);
    }
  }

  /** "(THERE; HIDDEN; above 99 then)": neither HIDDEN nor THERE is above 99 then. */
  private static void hidesAtMost(int good) {
    String g = "" + good;
    TakesWhatItLacks y = Due.town("tG98;hG98;tG20;".replace("G", g));
    due.is("2 more would be HIDDEN 100", -3, y.hides(good, 2));
    due.is("1 more is HIDDEN 99", 19, y.hides(good, 1));
    due.is("HIDDEN 99", 99, y.good(good, 2));
    due.is("80 more would be THERE 99", 99, y.hides(good, -80));
    due.is("THERE 99", 99, y.good(good, 0));
    due.is("1 more would be THERE 100", -3, y.hides(good, -1));
    due.is("0 at THERE 99", 99, y.hides(good, 0));
    due.is("HIDDEN behind all that", 19, y.good(good, 2));
    TakesWhatItLacks z = Due.town("tG99;hG99;tG19;".replace("G", g));
    due.is("81 would be THERE 100", -3, z.hides(good, -81));
    due.is("80 are THERE 99", 99, z.hides(good, -80));
    due.is("one of the two was refused", 1, z.count(13));
  }

  /** "USED of a GOOD becomes v: what it was. -4; -6 9." */
  private static void uses() {
    TakesWhatItLacks x = new TakesWhatItLacks();
    for (int good = 0; good <= 5; good++) {
      due.is("the greatest, of " + good, 2, x.uses(good, 9));
      due.is("one above it", -6, x.uses(good, 10));
      due.is("the least", 9, x.uses(good, 0));
      due.is("one below it", -4, x.uses(good, -1));
      due.is("USED is the least", 0, x.good(good, 1));
      due.is("what it was, the least", 0, x.uses(good, 1));
    }
    due.is("what LACK there is then, 7 less 20", 0, x.count(4));
    for (int v = 0; v <= 9; v++) {
      due.is("uses(0, " + v + "), behind 1 as above", v == 0 ? 1 : v - 1, x.uses(0, v));
      due.is("USED, " + v, v, x.good(0, 1));
    }
  }

  /** "A SHIP is OUT again with a LOAD: what it was. -4; -6 99; -3 it is OUT." */
  private static void sends() {
    TakesWhatItLacks x = Due.town("s10001;s10001;s10001;s10001;s10001;s10001;s10099;d01;");
    due.is("all are IN", 127, x.count(3));
    due.is("the last, with the least LOAD", 99, x.sends(6, 0));
    due.is("it alone is OUT", 63, x.count(3));
    due.is("its LOAD", 0, x.shipOf(6, 3));
    due.is("it is OUT", -3, x.sends(6, 0));
    due.is("the first, with the greatest LOAD", 1, x.sends(0, 99));
    due.is("both are OUT", 62, x.count(3));
    due.is("its LOAD, the greatest", 99, x.shipOf(0, 3));
    due.is("one above", -6, x.sends(1, 100));
    due.is("one below", -4, x.sends(1, -1));
    due.is("there is no such one", -1, x.sends(7, 0));
    due.is("1 is IN still", 62, x.count(3));
    due.is("they come again", 7, x.days(1));
    due.is("and are sent again", 99, x.sends(0, 5));
    TakesWhatItLacks all = Due.town("s10000;d01;");
    for (int load = 0; load <= 99; load++) {
      due.is("sends(0, " + load + ")", load == 0 ? 0 : load - 1, all.sends(0, load));
      due.is("LOAD, " + load, load, all.shipOf(0, 3));
      due.is("IN again", 1, all.days(1));
    }
    // OUT again, it BRINGS again: 20, less 2 for each of four DAYS, 30 at TIDE 3 and 40 when it has come again.
    TakesWhatItLacks y = Due.town("s00130;d04;");
    due.is("THERE behind 4 DAYS", 20 - 8 + 30, y.good(1, 0));
    y.sends(0, 40);
    due.is("IN again at TIDE 4", 1, y.days(1));
    due.is("THERE behind that", 42 + 40 - 2, y.good(1, 0));
  }

  /** "n DAYS go by: how many are IN. -4 1; -6 (60; DAY above 999)." */
  private static void days() {
    TakesWhatItLacks x = new TakesWhatItLacks();
    due.is("the least", 0, x.days(1));
    due.is("one below", -4, x.days(0));
    due.is("the greatest", 0, x.days(60));
    due.is("one above", -6, x.days(61));
    due.is("DAY", 61, x.count(1));
    TakesWhatItLacks y = Due.town(Due.days(938));
    due.is("60 on DAY 938 leave one more", 0, y.days(60));
    due.is("DAY 998", 998, y.count(1));
    due.is("2 on DAY 998", -6, y.days(2));
    due.is("1 on DAY 998", 0, y.days(1));
    due.is("1 on DAY 999", -6, y.days(1));
    due.is("0 on DAY 999", -4, y.days(0));
    due.is("DAY is the greatest", 999, y.count(1));
    due.is("60 on DAY 939", 0, Due.town(Due.days(939)).days(60));
    TakesWhatItLacks z = Due.town(Due.days(940));
    due.is("60 on DAY 940", -6, z.days(60));
    due.is("59 on DAY 940", 0, z.days(59));
    TakesWhatItLacks back = Due.town(Due.days(998));
    back.days(1);
    back.back();
    due.is("DAY 998 again, TAKEN BACK", 0, back.days(1));
    due.is("DAY 999 again", 999, back.count(1));
    TakesWhatItLacks in = Due.town("s10000;d01;s10000;s00200;");
    due.is("how many are IN, those that were IN ahead of it too", 2, in.days(1));
    due.is("and so on a DAY on which none comes", 2, in.days(1));
    due.is("and when the last comes, on DAY 3", 3, in.days(1));
  }

  /** "the latest first, 8 at most (older ones no more ...)"; "how many can still be. -3 none." */
  private static void back() {
    TakesWhatItLacks x = new TakesWhatItLacks();
    due.is("none", -3, x.back());
    x.uses(5, 7);
    due.is("one, then none", 0, x.back());
    due.is("USED again", 2, x.good(5, 1));
    due.is("none then", -3, x.back());
    // Nine changes of all four sorts: the first, by uses(), can be TAKEN BACK no more.
    TakesWhatItLacks y = Due.town("s10033;d01;");
    y.uses(5, 7);
    y.uses(4, 7);
    y.hides(3, 11);
    y.sends(0, 44);
    y.days(1);
    y.sends(0, 55);
    y.hides(3, -1);
    y.days(2);
    due.is("eight can be TAKEN BACK", 8, y.count(7));
    y.uses(4, 0);
    due.is("not nine", 8, y.count(7));
    due.is("back() from uses(4, 0)", 7, y.back());
    due.is("USED of 4", 7, y.good(4, 1));
    due.is("back() from days(2)", 6, y.back());
    due.is("DAY", 2, y.count(1));
    due.is("OUT", 0, y.count(3));
    due.is("back() from hides(3, -1)", 5, y.back());
    due.is("HIDDEN", 11, y.good(3, 2));
    due.is("back() from sends(0, 55)", 4, y.back());
    due.is("IN", 1, y.count(3));
    due.is("LOAD", 44, y.shipOf(0, 3));
    due.is("back() from days(1)", 3, y.back());
    due.is("DAY then", 1, y.count(1));
    due.is("OUT then", 0, y.count(3));
    due.is("back() from sends(0, 44)", 2, y.back());
    due.is("LOAD then", 33, y.shipOf(0, 3));
    due.is("back() from hides(3, 11)", 1, y.back());
    due.is("none HIDDEN", 0, y.hidden());
    due.is("back() from uses(4, 7)", 0, y.back());
    due.is("USED of 4 then", 2, y.good(4, 1));
    due.is("the oldest is no more", -3, y.back());
    due.is("USED of 5 stays", 7, y.good(5, 1));
  }

  /** "each that is not refused counts, also if all stays as it was". */
  private static void eachCounts() {
    TakesWhatItLacks x = Due.town("s10000;d01;");
    x.hides(0, 0);
    due.is("hides(0, 0) counts", 1, x.count(7));
    x.uses(0, 2);
    due.is("uses(0, 2), what it was, counts", 2, x.count(7));
    x.sends(0, 0);
    due.is("sends(0, 0), what it was, counts", 3, x.count(7));
    x.days(1);
    due.is("days(1) counts", 4, x.count(7));
    x.hides(0, 99);
    x.uses(0, 10);
    x.sends(0, 100);
    x.days(61);
    due.is("none of those refused counts", 4, x.count(7));
    due.is("back() from days(1)", 3, x.back());
    due.is("back() from sends(0, 0)", 2, x.back());
    due.is("IN again", 1, x.count(3));
    due.is("a change behind back()", 2, x.uses(0, 3));
    due.is("counts as the third", 3, x.count(7));
    due.is("and is TAKEN BACK first", 2, x.back());
    due.is("USED", 2, x.good(0, 1));
  }

  /** "ship(), a HARBOUR without FAULT, restore(), where they are not refused, leave none". */
  private static void whatLeavesNone() {
    TakesWhatItLacks x = new TakesWhatItLacks();
    x.hides(0, 1);
    due.is("ship() refused", -1, x.ship(0, 0, 6, 0));
    due.is("restore() refused", -3, x.restore());
    due.is("a HARBOUR with a FAULT of kind 1", -1000, x.harbour());
    due.is("a HARBOUR with a FAULT of kind 2", -2000, Due.tell(x, "t600;"));
    due.is("all these leave it", 1, x.count(7));
    x.image();
    x.row(1);
    x.feed('t');
    x.judge();
    x.clear();
    due.is("and so do image(), row(), feed(), judge(), clear()", 1, x.count(7));
    due.is("a FAULT again", -1001, x.harbour());
    x.ship(0, 0, 0, 0);
    due.is("ship() leaves none", 0, x.count(7));
    due.is("back() behind ship()", -3, x.back());
    x.hides(0, 1);
    Due.tell(x, "c00;");
    due.is("a HARBOUR leaves none, also one that changes nothing", 0, x.count(7));
    due.is("back() behind it", -3, x.back());
    x.hides(0, 1);
    x.restore();
    due.is("restore() leaves none", 0, x.count(7));
    due.is("back() behind restore()", -3, x.back());
    due.is("as in THE IMAGE, 1 HIDDEN", 1, x.good(0, 2));
  }

  public static void main(String[] args) {
    goods();
    coughsAndDay();
    ships();
    lack();
    tide();
    draws();
    sinksForShipAndBride();
    sinksForBallast();
    sinksForDoctor();
    sinksForMixed();
    sinksForSmuggler();
    depth();
    asMuchAsItDraws();
    lessThanItDraws();
    oneAheadOfTheNext();
    brings();
    thereAtMost();
    doctors();
    used();
    coughs();
    hides();
    uses();
    sends();
    days();
    back();
    eachCounts();
    whatLeavesNone();
    due.end("TownEdgeTest");
  }
}
