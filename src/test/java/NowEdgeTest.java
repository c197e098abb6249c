/**
 * Terms III and IV, the ROW, THE IMAGE and promises 30 to 41 and 43 to 45: each sentence that names a boundary case, with
 * answers reckoned from its words. The sentence stands above its test.
 */
final class NowEdgeTest {
  private static final String NOTHING_USED = "u00;u10;u20;u30;u40;u50;";
  private static final String SIX_BRIDES = "s10000;s10000;s10000;s10000;s10000;s10000;";
  private static final Due due = new Due();

  private static TakesWhatItLacks town(String... texts) {
    return Due.town(texts);
  }

  /** A town in which nothing is USED but what the texts tell. */
  private static TakesWhatItLacks still(String... texts) {
    TakesWhatItLacks x = Due.town(NOTHING_USED);
    for (String text : texts) {
      due.is("a HARBOUR: " + text, 1, Due.tell(x, text) > 0 ? 1 : 0);
    }
    return x;
  }

  // ---- III

  /** "DEEPEST: the SHIP that DRAWS most, of several the least; -9." */
  private static void deepest() {
    due.is("30: DEEPEST of none", -9, new TakesWhatItLacks().deepest(0));
    due.is("30: DEEPEST of one, that DRAWS 1", 0, town("s10000;").deepest(0));
    due.is("30: DEEPEST of seven the same", 0, town(SIX_BRIDES, "s10000;").deepest(0));
    due.is("30: DEEPEST is the last", 6, town(SIX_BRIDES, "s30000;").deepest(0));
    due.is("30: 12 and 13", 1, town("s09000;s49000;").deepest(0));
    due.is("30: 13 and 12", 0, town("s49000;s09000;").deepest(0));
    due.is("30: 12 and 12", 0, town("s09000;s48000;").deepest(0));
    due.is("30: 3, 12 and 12", 1, town("s00000;s48000;s09000;").deepest(0));
    due.is("30: one that is IN", 1, town(NOTHING_USED, "d04;s00000;s01000;d01;").deepest(0));
  }

  /** "SHORTEST: the GOOD LACKED most, of several the least; how much." "GOOD 0 and 0, if none is LACKED." */
  private static void shortest() {
    int[][] goodLack = {{0, 1}, {5, 1}, {0, 63}, {5, 63}, {3, 2}};
    for (int[] row : goodLack) {
      int there = 63 - row[1];
      TakesWhatItLacks x = still("u" + row[0] + "9;t" + row[0] + there / 10 + there % 10 + ";");
      due.is("30: SHORTEST, " + row[1] + " of " + row[0], row[0], x.deepest(1));
      due.is("30: how much, " + row[1] + " of " + row[0], row[1], x.deepest(2));
    }
    TakesWhatItLacks none = still("c00;");
    due.is("30: SHORTEST, none LACKED", 0, none.deepest(1));
    due.is("30: how much, none LACKED", 0, none.deepest(2));
    TakesWhatItLacks just = still("u59;t563;");
    due.is("30: SHORTEST, THERE as much as is wanted", 0, just.deepest(1));
    due.is("30: how much of it", 0, just.deepest(2));
    TakesWhatItLacks same = still("u29;t220;u59;t520;");
    due.is("30: SHORTEST, of several the least", 2, same.deepest(1));
    due.is("30: how much, of one of them", 43, same.deepest(2));
    TakesWhatItLacks more = still("u29;t220;u59;t519;");
    due.is("30: SHORTEST, 44 rather than 43", 5, more.deepest(1));
    due.is("30: how much, 44", 44, more.deepest(2));
    due.is("30: all of them 63", 0, town("u09;u19;u29;u39;u49;u59;t000;t100;t200;t300;t400;t500;").deepest(1));
  }

  /** "PLENTY: GOODS (bits) of which more is THERE than 7 times what is USED." */
  private static void plenty() {
    int[][] usedTherePlenty = {{0, 0, 0}, {0, 1, 1}, {1, 6, 0}, {1, 7, 0}, {1, 8, 1}, {9, 62, 0}, {9, 63, 0}, {9, 64, 1},
      {9, 99, 1}, {0, 99, 1}};
    for (int[] row : usedTherePlenty) {
      for (int good = 0; good <= 5; good++) {
        TakesWhatItLacks x = still("t000;t100;t200;t300;t400;t500;u" + good + row[0] + ";t" + good + row[1] / 10
            + row[1] % 10 + ";");
        due.is("30: PLENTY, " + row[1] + " of " + good + ", USED " + row[0], row[2] << good, x.deepest(3));
      }
    }
    due.is("30: PLENTY of all", 63, new TakesWhatItLacks().deepest(3));
    due.is("30: PLENTY of none", 0, town("t014;t114;t214;t314;t414;t514;").deepest(3));
    due.is("30: what is HIDDEN is not THERE", 62, town("h006;").deepest(3));
    due.is("30: but what is left is", 63, town("h005;").deepest(3));
  }

  /** "TWINS: how many twos of SHIPS have one GOOD." */
  private static void twins() {
    due.is("30: TWINS of none", 0, new TakesWhatItLacks().deepest(4));
    due.is("30: TWINS of one", 0, town("s00000;").deepest(4));
    due.is("30: TWINS of two", 1, town("s00500;s11500;").deepest(4));
    due.is("30: TWINS, the first and the last", 1, town("s00000;s00100;s00200;s00300;s00400;s00500;s00000;").deepest(4));
    due.is("30: TWINS of six GOODS", 0, town("s00000;s00100;s00200;s00300;s00400;s00500;").deepest(4));
    due.is("30: TWINS of three", 3, town("s00200;s00200;s00200;").deepest(4));
    due.is("30: TWINS of three and of two", 4, town("s00200;s00100;s00200;s00100;s00200;").deepest(4));
    due.is("30: TWINS of all seven", 21, town(SIX_BRIDES, "s00000;").deepest(4));
    due.is("30: TWINS, one of them IN", 1, town("s10000;d01;s09000;").deepest(4));
  }

  // ---- IV

  private static void mean(long above, long below, String... texts) {
    TakesWhatItLacks x = town(texts);
    due.is("31: mean(0) of " + String.join(" ", texts), above, x.mean(0));
    due.is("31: mean(1) of " + String.join(" ", texts), below, x.mean(1));
  }

  /** "MEAN LOAD of SHIPS: a fraction (0 over 1 of none)"; "told in lowest terms; 0 as 0 over 1". */
  private static void means() {
    mean(0, 1);
    mean(0, 1, "s00000;");
    mean(0, 1, "s00000;s00000;");
    mean(1, 1, "s00001;");
    mean(99, 1, "s00099;");
    mean(1, 2, "s00001;s00000;");
    mean(1, 1, "s00001;s00001;");
    mean(197, 2, "s00099;s00098;");
    mean(3, 2, "s00001;s00002;s00003;s00000;");
    mean(1, 7, SIX_BRIDES, "s00001;");
    mean(1, 1, SIX_BRIDES, "s00007;");
    mean(99, 7, SIX_BRIDES, "s00099;");
    mean(99, 1, "s00099;s00099;s00099;s00099;s00099;s00099;s00099;");
    mean(33, 2, "s10099;d01;s00000;s00000;s00000;s00000;s00000;");
  }

  /** "HIDDEN ones together." */
  private static void hidden() {
    due.is("32: none", 0, new TakesWhatItLacks().hidden());
    due.is("32: 1 of the first", 1, town("h001;").hidden());
    due.is("32: 1 of the last", 1, town("h501;").hidden());
    due.is("32: all", 594, town("t099;h099;t199;h199;t299;h299;t399;h399;t499;h499;t599;h599;").hidden());
  }

  /** "NEXT TIDE: in how many DAYS (0 .. 7) TIDE is v (0 .. 4) or more first." */
  private static void nextTide() {
    int[][] byDay = {
      {0, 1, 2, 3, 4}, {0, 0, 1, 2, 3}, {0, 0, 0, 1, 2}, {0, 0, 0, 0, 1},
      {0, 0, 0, 0, 0}, {0, 0, 0, 0, 7}, {0, 0, 0, 5, 6}, {0, 0, 3, 4, 5},
    };
    int[] days = {0, 1, 2, 3, 4, 5, 6, 7, 8, 13, 992, 997, 998, 999};
    for (int day : days) {
      TakesWhatItLacks x = day == 0 ? new TakesWhatItLacks() : town(Due.days(day));
      for (int v = 0; v <= 4; v++) {
        due.is("33: nextTide(" + v + ") on DAY " + day, byDay[day % 8][v], x.nextTide(v));
      }
    }
  }

  /** "EMPTY: SHIPS (bits) for which the bar SINKS nothing now." */
  private static void empty() {
    due.is("34: no SHIPS", 0, new TakesWhatItLacks().empty());
    due.is("34: all seven", 127, still("s00000;s00100;s00200;s00300;s00400;s00500;s30000;").empty());
    due.is("34: the last", 64, still(SIX_BRIDES, "s00000;").empty());
    due.is("34: the first", 1, still("s00000;", SIX_BRIDES).empty());
    due.is("34: LACK of 2", 1, still("u59;t561;s00500;").empty());
    due.is("34: LACK of 3", 0, still("u59;t560;s00500;").empty());
    due.is("34: a BRIDE", 0, still("s10000;").empty());
    due.is("34: a BALLAST, one not LACKED", 0, town("t013;t113;t213;t313;t413;t514;s20000;").empty());
    due.is("34: a BALLAST, all LACKED", 1, town("t013;t113;t213;t313;t413;t513;s20000;").empty());
    due.is("34: COUGHS of 8", 1, still("c08;s30000;").empty());
    due.is("34: COUGHS of 9", 0, still("c09;s30000;").empty());
    due.is("34: LACK of 2 and 2, MIXED", 1, still("u59;t561;u09;t061;s40500;").empty());
    due.is("34: LACK of 3 behind it, MIXED", 0, still("u09;t060;s40500;").empty());
    due.is("34: 9 HIDDEN, SMUGGLER", 1, still("h509;s50500;").empty());
    due.is("34: 10 HIDDEN, SMUGGLER", 0, still("h510;s50500;").empty());
    due.is("34: TIDE does not count", 1, still("d04;s09000;").empty());
    due.is("34: one that is IN", 1, still("d03;s00000;d01;").empty());
  }

  private static void carried(String told, int want, int good, TakesWhatItLacks x) {
    due.is("35: " + told, want, x.carried(good));
  }

  /** "CARRIED: what SHIPS OUT have of a GOOD (what they would BRING of it)." */
  private static void carried() {
    carried("no SHIPS", 0, 0, new TakesWhatItLacks());
    carried("99 seven times, THERE does not bound it", 693, 5,
        town("s00599;s00599;s00599;s00599;s20599;s30599;s00599;"));
    carried("of another GOOD", 0, 4, town("s00599;"));
    carried("of the one behind", 0, 0, town("s00599;"));
    carried("a BRIDE", 0, 0, town("s10099;"));
    carried("half of 99, cut", 49, 5, town("s40599;"));
    carried("the rest, of GOOD 0 behind 5", 50, 0, town("s40599;"));
    carried("half of 1, cut", 0, 2, town("s50201;"));
    carried("the rest of 1", 1, 3, town("s50201;"));
    carried("not the one ahead of it", 0, 1, town("s50201;"));
    carried("one that is IN, none", 0, 1, town("s20150;d01;"));
    TakesWhatItLacks x = town("s20150;d01;");
    x.sends(0, 7);
    carried("and OUT again", 7, 1, x);
  }

  /** "FILLED: by how many SHIPS IN one behind the other, each by numbers, LACK of all GOODS were 0 (all at once, whatever DEPTH; 0 it is; -9 never)." */
  private static void filled() {
    due.is("36: 0 it is, of no SHIPS", 0, still("c00;").filled());
    due.is("36: 0 it is, with SHIPS", 0, still("s00099;").filled());
    due.is("36: never, of no SHIPS", -9, still("u59;").filled());
    due.is("36: a LACK of 1 by 1", 1, still("u59;t562;s09501;").filled());
    due.is("36: a LACK of 1 by 0", -9, still("u59;t562;s09500;").filled());
    due.is("36: 63 by seven of 9", 7, still("u59;t500;", "s00509;s00509;s00509;s00509;s00509;s00509;s00509;").filled());
    due.is("36: 62 by seven of 9", 7, still("u59;t501;", "s00509;s00509;s00509;s00509;s00509;s00509;s00509;").filled());
    due.is("36: 54 by six of seven", 6, still("u59;t509;", "s00509;s00509;s00509;s00509;s00509;s00509;s00509;").filled());
    due.is("36: 63 by seven, one of 8", -9, still("u59;t500;", "s00509;s00509;s00509;s00509;s00509;s00509;s00508;").filled());
    due.is("36: BRIDES ahead of it count as SHIPS", 7, still("u59;t500;", SIX_BRIDES, "s09563;").filled());
    due.is("36: each by numbers, the first alone", 1, still("u59;t500;", "s09563;", SIX_BRIDES).filled());
    due.is("36: one that is IN BRINGS no more", -9, still("s20563;d01;u59;t500;").filled());
    due.is("36: nor counts", 1, still("s10000;d01;u59;t500;s09563;").filled());
    due.is("36: two GOODS by one MIXED", 1, still("u59;t543;u09;t043;s40540;").filled());
    due.is("36: two GOODS by one MIXED, 19 of 39 too few", -9, still("u59;t543;u09;t043;s40539;").filled());
    due.is("36: all at once, nothing is USED between", 2, still("u59;t543;s09510;s09510;").filled());
    due.is("36: THERE is 99 at most and enough", 1, still("u59;t562;s09599;").filled());
    TakesWhatItLacks x = still("u59;t500;s09563;");
    due.is("36: in mind alone", 1, x.filled());
    due.is("36: LACK still", 63, x.count(4));
    due.is("36: OUT still", 0, x.count(3));
  }

  /** "SPARED: by how much less WANT is within n DAYS, were a GOOD's HIDDEN all THERE now." "THERE is 99 at most then." */
  private static void spared() {
    due.is("37: none HIDDEN", 0, still("u59;t500;").spared(5, 60));
    due.is("37: 1 HIDDEN, now", 1, still("u59;t501;h501;").spared(5, 0));
    due.is("37: 1 HIDDEN of the first, now", 1, still("u09;t001;h001;").spared(0, 0));
    // 10 THERE rather than none: LACK 53, 62, 63, .. rather than 63, 63, 63, ..
    TakesWhatItLacks x = still("u59;t510;h510;");
    int[] spared = {10, 11, 11, 11};
    for (int n = 0; n < spared.length; n++) {
      due.is("37: 10 HIDDEN within " + n, spared[n], x.spared(5, n));
    }
    for (int n = 4; n <= 60; n++) {
      due.is("37: 10 HIDDEN within " + n, 11, x.spared(5, n));
    }
    due.is("37: of another GOOD", 0, x.spared(4, 60));
    due.is("37: they are HIDDEN still", 10, x.hidden());
    due.is("37: no LACK, none spared", 0, still("u59;t599;h530;").spared(5, 0));
    due.is("37: a LACK of 3 and more HIDDEN", 3, still("u59;t599;h539;").spared(5, 0));
    // 1 THERE of 99 HIDDEN: 99 at most, not 100. LACK 62 rather than none; of 99 it is none for 5 DAYS (54 on DAY 5).
    TakesWhatItLacks y = still("t599;h599;t501;u59;");
    due.is("37: 99 at most, now", 62, y.spared(5, 0));
    due.is("37: 99 at most, on DAY 4 still none", 62 + 4 * 63, y.spared(5, 4));
    due.is("37: 99 at most, on DAY 5 a LACK of 9", 62 + 4 * 63 + 54, y.spared(5, 5));
    due.is("37: 99 THERE already", 0, still("t599;h599;t599;u59;").spared(5, 60));
    // With all THERE the SHIP is kept out: 28 and 1 more a LACK of 35, which SINKS 11; without it 36, and 60 BROUGHT.
    TakesWhatItLacks less = still("u59;t528;h501;s09560;");
    due.is("37: now 1", 1, less.spared(5, 0));
    due.is("37: below 0, a SHIP is kept out", 1 - 44, less.spared(5, 1));
    // A SMUGGLER DRAWS 2: by 20 HIDDEN it is IN at once, and BRINGS 30 of GOOD 3: LACK 2 and none. Of none HIDDEN LACK is
    // 2 and 3; then, at TIDE 1, it is IN by them.
    TakesWhatItLacks smuggler = still("h220;u31;t305;s50260;");
    due.is("37: HIDDEN no more, for a SMUGGLER, now", 0, smuggler.spared(2, 0));
    due.is("37: HIDDEN no more, for a SMUGGLER, within 1", 2 - 5, smuggler.spared(2, 1));
    due.is("37: HIDDEN no more, for a SMUGGLER, within 2", 2 - 5, smuggler.spared(2, 2));
  }

  /** "RACE of two SHIPS: the one that is IN first (the lesser number on one DAY); -9 neither within 60." */
  private static void race() {
    TakesWhatItLacks same = town(SIX_BRIDES, "s10000;");
    due.is("38: on one DAY the lesser", 0, same.race(0, 6));
    due.is("38: on one DAY the lesser, told last", 0, same.race(6, 0));
    due.is("38: on one DAY, the last two", 5, same.race(6, 5));
    same.days(1);
    due.is("38: both are IN", 0, same.race(6, 0));
    TakesWhatItLacks x = still("s00000;s10000;");
    due.is("38: the greater is first", 1, x.race(0, 1));
    due.is("38: the greater is first, told first", 1, x.race(1, 0));
    x.days(1);
    due.is("38: the greater is IN", 1, x.race(0, 1));
    due.is("38: the lesser is first", 0, still("s10000;s00000;").race(1, 0));
    due.is("38: a DAY between", 0, still("s00000;s01000;").race(0, 1));
    due.is("38: a DAY between, the other way round", 1, still("s01000;s00000;").race(0, 1));
    due.is("38: neither", -9, still("s02000;s02500;").race(0, 1));
    // As MindEdgeTest reckons: of 60 THERE behind 60 DAYS, of 61 behind 61.
    due.is("38: both behind 60", 0, still("u01;t060;u51;t560;s02000;s02500;").race(0, 1));
    due.is("38: 61 and 60", 1, still("u01;t061;u51;t560;s02000;s02500;").race(0, 1));
    due.is("38: 60 and 61", 0, still("u01;t060;u51;t561;s02000;s02500;").race(0, 1));
    due.is("38: both behind 61", -9, still("u01;t061;u51;t561;s02000;s02500;").race(0, 1));
    due.is("38: never and 61", -9, still("u51;t561;s02000;s02500;").race(0, 1));
    due.is("38: never and 60", 1, still("u51;t560;s02000;s02500;").race(0, 1));
    due.is("38: 60 and never", 0, still("u51;t560;s02500;s02000;").race(0, 1));
    due.is("38: 61 and never", -9, still("u51;t561;s02500;s02000;").race(0, 1));
    due.is("38: from DAY 999", 1, still(Due.days(999), "s01000;s00000;").race(0, 1));
  }

  // ---- the ROW

  /** "A ROW of numbers (0 .. 99; 12 at most)"; "A number more of the ROW: how many. -4; -6 (99; 12, too)." */
  private static void row() {
    TakesWhatItLacks x = new TakesWhatItLacks();
    due.is("39: none at first", 0, x.count(6));
    due.is("39: one below the least", -4, x.row(-1));
    due.is("39: one above the greatest", -6, x.row(100));
    due.is("39: none of these", 0, x.count(6));
    due.is("39: the least", 1, x.row(0));
    due.is("39: the greatest", 2, x.row(99));
    for (int many = 3; many <= 12; many++) {
      due.is("39: number " + many, many, x.row(many));
    }
    due.is("39: a 13th", -6, x.row(0));
    due.is("39: a 13th below the least", -4, x.row(-1));
    due.is("39: twelve", 12, x.count(6));
    due.is("41: clear() of twelve", 12, x.clear());
    due.is("39: anew", 1, x.row(0));
    for (int many = 2; many <= 12; many++) {
      due.is("39: number " + many + " anew", many, x.row(0));
    }
    due.is("39: a 13th anew", -6, x.row(0));
    due.is("40: judge() of twelve, of no SHIPS", 0, x.judge());
    due.is("39: none behind judge()", 0, x.count(6));
    due.is("39: anew behind judge()", 1, x.row(0));
    for (int v = 0; v <= 99; v++) {
      x.clear();
      due.is("39: row(" + v + ")", 1, x.row(v));
      due.is("39: the only one", 1, x.count(6));
    }
  }

  private static void judged(int want, TakesWhatItLacks x, int... numbers) {
    for (int number : numbers) {
      x.row(number);
    }
    String told = "40: judge() of " + java.util.Arrays.toString(numbers);
    due.is(told, want, x.judge());
    due.is(told + ": the ROW has none then", 0, x.count(6));
    due.is(told + ": nor is there one to judge", -9, x.judge());
  }

  /** "JUDGED: DEPTH for SHIPS 0, 1, ..: the first that is not so (none there, too)"; "-9 (whichever it answers, the ROW has none then)". */
  private static void judge() {
    judged(-9, new TakesWhatItLacks());
    judged(0, new TakesWhatItLacks(), 0);
    judged(-9, still("s00000;"));
    judged(-9, still("s00000;"), 0);
    judged(0, still("s00000;"), 1);
    judged(1, still("s00000;"), 0, 0);
    judged(0, still("s00000;"), 1, 0);
    TakesWhatItLacks seven = still("s10000;s20000;s00000;s10000;s20000;s00000;s10000;");
    judged(-9, seven, 9, 6, 0, 9, 6, 0, 9);
    judged(-9, seven, 9, 6, 0, 9, 6, 0);
    judged(6, seven, 9, 6, 0, 9, 6, 0, 8);
    judged(5, seven, 9, 6, 0, 9, 6, 1, 8);
    judged(0, seven, 10, 6, 0, 9, 6, 0, 9);
    judged(7, seven, 9, 6, 0, 9, 6, 0, 9, 9);
    judged(7, seven, 9, 6, 0, 9, 6, 0, 9, 0, 0, 0, 0, 0);
    judged(3, seven, 9, 6, 0, 99, 6, 0, 9, 0, 0, 0, 0, 0);
    seven.days(4);
    judged(-9, seven, 13, 10, 4, 13, 10, 4, 13);
    judged(-9, still(Due.days(999), "s10000;"), 10);
  }

  /** "The ROW has none then: how many it had." */
  private static void clear() {
    TakesWhatItLacks x = new TakesWhatItLacks();
    due.is("41: of none", 0, x.clear());
    x.row(5);
    due.is("41: of one", 1, x.clear());
    due.is("41: of none then", 0, x.clear());
    due.is("41: and none is left", 0, x.count(6));
    due.is("41: nor judged", -9, x.judge());
  }

  // ---- THE IMAGE

  /** "THE IMAGE: all that there is of I, but it, letters, the ROW, REFUSALS." "-3 there is none." */
  private static void image() {
    TakesWhatItLacks x = new TakesWhatItLacks();
    due.is("44: there is none", -3, x.restore());
    due.is("43: of a new object", 0, x.image());
    Due.tell(x, "s54321;t399;h311;u38;c55;d07;");
    x.row(4);
    x.feed('t');
    due.is("44: the new object again", 0, x.restore());
    due.is("44: no SHIPS", 0, x.count(0));
    due.is("44: DAY", 0, x.count(1));
    due.is("44: COUGHS", 0, x.count(2));
    due.is("44: none is IN", 0, x.count(3));
    due.is("44: no LACK", 0, x.count(4));
    due.is("44: the letter stays", 1, x.count(5));
    due.is("44: the ROW stays", 1, x.count(6));
    due.is("44: REFUSALS stay", 1, x.count(13));
    for (int good = 0; good < 6; good++) {
      due.is("44: THERE of " + good, 20, x.good(good, 0));
      due.is("44: USED of " + good, 2, x.good(good, 1));
      due.is("44: HIDDEN of " + good, 0, x.good(good, 2));
    }
    due.is("44: a SHIP comes as the first again", 0, x.ship(1, 0, 0, 0));
    due.is("44: the image has it not", 0, x.restore());
    due.is("44: so it is no more", 0, x.count(0));
  }

  /** The same of a full store on the last DAY. */
  private static void imageOfAll() {
    TakesWhatItLacks x = town(SIX_BRIDES, "s49598;", Due.days(999), "t099;h099;t099;t599;h599;t599;u59;c99;o0;");
    due.is("43: on the last DAY", 999, x.image());
    x.sends(5, 44);
    x.hides(0, 0);
    x.uses(5, 0);
    Due.tell(x, "c00;t500;t000;");
    due.is("44: the last DAY", 999, x.restore());
    due.is("44: all seven SHIPS", 7, x.count(0));
    due.is("44: COUGHS 99", 99, x.count(2));
    due.is("44: who is IN, all BRIDES but the first", 62, x.count(3));
    due.is("44: LOAD of the sixth", 0, x.shipOf(5, 3));
    due.is("44: KIND of the seventh", 4, x.shipOf(6, 0));
    due.is("44: FIGURE of the seventh", 9, x.shipOf(6, 1));
    due.is("44: GOOD of the seventh", 5, x.shipOf(6, 2));
    due.is("44: LOAD of the seventh", 98, x.shipOf(6, 3));
    due.is("44: THERE of the first GOOD", 99, x.good(0, 0));
    due.is("44: THERE of the last GOOD", 99, x.good(5, 0));
    due.is("44: HIDDEN of the last GOOD", 99, x.good(5, 2));
    due.is("44: USED of the last GOOD", 9, x.good(5, 1));
    due.is("44: the SHIP that is OUT comes again in mind", 1, x.then(1, 1) & 1);
  }

  /** "It is RESTORED": as often as it is asked for, until another is taken; what changes behind leaves THE IMAGE as it is. */
  private static void imageStays() {
    TakesWhatItLacks x = new TakesWhatItLacks();
    x.days(3);
    due.is("43: on DAY 3", 3, x.image());
    for (int i = 0; i < 3; i++) {
      x.days(60);
      x.hides(2, x.good(2, 0));
      due.is("44: DAY 3 again", 3, x.restore());
      due.is("44: THERE on DAY 3", 14, x.good(2, 0));
      due.is("44: HIDDEN on DAY 3", 0, x.good(2, 2));
    }
    x.days(1);
    due.is("43: what can be TAKEN BACK is not of it", 4, x.image());
    due.is("43: and stays", 1, x.count(7));
    due.is("12: back() behind image()", 0, x.back());
    due.is("12: DAY", 3, x.count(1));
    due.is("44: THE IMAGE is of DAY 4", 4, x.restore());
    due.is("44: none can be TAKEN BACK", -3, x.back());
  }

  // ---- the counts

  /** "-9 for another what." */
  private static void count() {
    TakesWhatItLacks x = new TakesWhatItLacks();
    for (int what = -20; what <= 40; what++) {
      boolean isOne = what >= 0 && what <= 7 || what >= 11 && what <= 16;
      due.is("45: count(" + what + ") of a new object", isOne ? 0 : -9, x.count(what));
    }
    due.is("45: count(least)", -9, x.count(Integer.MIN_VALUE));
    due.is("45: count(greatest)", -9, x.count(Integer.MAX_VALUE));
    for (int what = 11; what <= 16; what++) {
      due.is("45: none of these was refused, count(" + what + ")", 0, x.count(what));
    }
    TakesWhatItLacks full = town(SIX_BRIDES, "s10000;", Due.days(999), "u09;u19;u29;u39;u49;u59;");
    due.is("45: SHIPS", 7, full.count(0));
    due.is("45: DAY", 999, full.count(1));
    due.is("45: COUGHS", 99, full.count(2));
    due.is("45: who is IN", 127, full.count(3));
    due.is("45: LACK of all GOODS", 378, full.count(4));
    for (int i = 1; i <= 9; i++) {
      full.uses(0, 9);
      due.is("45: what can be TAKEN BACK", Math.min(i, 8), full.count(7));
    }
  }

  public static void main(String[] args) {
    deepest();
    shortest();
    plenty();
    twins();
    means();
    hidden();
    nextTide();
    empty();
    carried();
    filled();
    spared();
    race();
    row();
    judge();
    clear();
    image();
    imageOfAll();
    imageStays();
    count();
    due.end("NowEdgeTest");
  }
}
