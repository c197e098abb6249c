/**
 * Terms II and promises 13 to 29 and 42: each sentence that names a boundary case, with answers reckoned from its words.
 * The sentence stands above its test, the reckoning beside the town where it is not plain.
 */
final class MindEdgeTest {
  private static final String NOTHING_USED = "u00;u10;u20;u30;u40;u50;";
  private static final String SIX_BRIDES = "s10000;s10000;s10000;s10000;s10000;s10000;";
  /**
   * A SHIP that DRAWS 5, of a GOOD 1 of which is USED: TIDE 4 and a LACK of 3, or TIDE 3 and a LACK of 6. Of 60 THERE 1 is
   * left on DAY 59 (TIDE 3): it is IN behind 60 DAYS. Of 61 1 is left on DAY 60: behind 61.
   */
  private static final String IN_BEHIND_60 = "u51;t560;s02500;";
  private static final String IN_BEHIND_61 = "u51;t561;s02500;";
  private static final Due due = new Due();

  private static TakesWhatItLacks town(String... texts) {
    return Due.town(texts);
  }

  /** A town in which nothing is USED but what the text tells. */
  private static TakesWhatItLacks still(String text) {
    return Due.town(NOTHING_USED, text);
  }

  private static TakesWhatItLacks stillOnLastDay(String text) {
    return Due.town(NOTHING_USED, Due.days(999), text);
  }

  /** "In mind, n DAYS on (0 .. 60; DAY may pass 999 there): THERE of a GOOD". */
  private static void thereIn() {
    TakesWhatItLacks x = still("u51;t599;");
    due.is("13: 0 DAYS on", 99, x.thereIn(5, 0));
    due.is("13: 1 DAY on", 98, x.thereIn(5, 1));
    due.is("13: 59 DAYS on", 40, x.thereIn(5, 59));
    due.is("13: 60 DAYS on", 39, x.thereIn(5, 60));
    for (int n = 0; n <= 60; n++) {
      due.is("13: 1 less each DAY, " + n + " on", 99 - n, x.thereIn(5, n));
    }
    due.is("13: the first GOOD, none USED", 20, x.thereIn(0, 60));
    due.is("13: 0 at least", 0, still("u59;t509;").thereIn(5, 1));
    due.is("13: 0 at least, of 8", 0, still("u59;t508;").thereIn(5, 1));
    due.is("13: 0 at least, later", 0, still("u59;t508;").thereIn(5, 60));
    due.is("13: 99 at most", 99, still("s20199;").thereIn(1, 1));
    TakesWhatItLacks last = stillOnLastDay("u51;t599;s00130;");
    due.is("13: 60 DAYS on from DAY 999", 39, last.thereIn(5, 60));
    due.is("13: to DAY 1003, ahead of its TIDE of 3", 20, last.thereIn(1, 4));
    due.is("13: behind it", 50, last.thereIn(1, 5));
    due.is("13: DAY is 999 still", 999, last.count(1));
  }

  /** "COUGHS; who is IN (bits)." */
  private static void then() {
    TakesWhatItLacks x = still("u09;t072;c97;");
    int[] coughs = {97, 97, 98, 99, 99};
    for (int n = 0; n < coughs.length; n++) {
      due.is("14: COUGHS " + n + " DAYS on", coughs[n], x.then(n, 0));
    }
    due.is("14: COUGHS 60 DAYS on", 99, x.then(60, 0));
    TakesWhatItLacks lacking = still("u09;t072;s01100;");
    for (int n = 0; n <= 60; n++) {
      due.is("14: 1 COUGH more each DAY behind the first, " + n + " on", Math.max(0, n - 1), lacking.then(n, 0));
      due.is("14: IN from TIDE 4 on, " + n + " on", n <= 4 ? 0 : 1, lacking.then(n, 1));
    }
    due.is("14: a DOCTOR in mind", 9, still("c18;s30000;").then(1, 0));
    TakesWhatItLacks seven = town(SIX_BRIDES, "s10000;");
    due.is("14: who is IN 0 DAYS on", 0, seven.then(0, 1));
    due.is("14: all seven 1 DAY on", 127, seven.then(1, 1));
    due.is("14: none is IN now", 0, seven.count(3));
    TakesWhatItLacks none = new TakesWhatItLacks();
    due.is("14: of no SHIPS", 0, none.then(60, 1));
    TakesWhatItLacks last = stillOnLastDay("s01100;");
    due.is("14: ahead of DAY 1004, at TIDE 4", 0, last.then(5, 1));
    due.is("14: behind it", 1, last.then(6, 1));
  }

  /** "COMES: behind how many DAYS (0 .. 60) a SHIP is IN first; -9". */
  private static void comes() {
    due.is("15: one that is IN", 0, town("s10000;d01;").comes(0));
    due.is("15: the least of one that is OUT", 1, town("s10000;").comes(0));
    due.is("15: the greatest", 60, still(IN_BEHIND_60).comes(0));
    due.is("15: one more", -9, still(IN_BEHIND_61).comes(0));
    due.is("15: one more, a DAY later", 60, still(IN_BEHIND_61 + "d01;").comes(0));
    due.is("15: never", -9, still("s02500;").comes(0));
    int[] behind = {4, 3, 2, 1, 1, 1, 6, 5, 4, 3};
    for (int day = 0; day < behind.length; day++) {
      String days = day == 0 ? "" : "d0" + day + ";";
      due.is("15: to TIDE 3 from DAY " + day, behind[day], still(days + "s00000;").comes(0));
    }
    due.is("15: to TIDE 3 from DAY 999", 5, stillOnLastDay("s00000;").comes(0));
    due.is("15: of seven the last", 1, town(SIX_BRIDES, "s10000;").comes(6));
  }

  /** "FIRST of those OUT, of several the least; -9." "FIRST is asked by comes(-1): the SHIP." */
  private static void first() {
    due.is("15: FIRST of none", -9, new TakesWhatItLacks().comes(-1));
    due.is("15: FIRST, all are IN", -9, town("s10000;s10000;d01;").comes(-1));
    due.is("15: FIRST, none ever comes", -9, still("s02000;s09500;").comes(-1));
    due.is("15: FIRST of all seven on one DAY", 0, town(SIX_BRIDES, "s10000;").comes(-1));
    due.is("15: FIRST is the last", 6,
        still("s09000;s09000;s09000;s09000;s09000;s09000;s10000;").comes(-1));
    // At TIDE 2 the DOCTOR and the SMUGGLER; the SHIP at TIDE 3.
    due.is("15: FIRST of two on one DAY, another ahead by number", 1, still("s00000;s30000;s50000;").comes(-1));
    due.is("15: FIRST of those OUT", 1, still("s10000;d01;s00000;").comes(-1));
    due.is("15: FIRST behind 60", 0, still(IN_BEHIND_60).comes(-1));
    due.is("15: FIRST behind 61", -9, still(IN_BEHIND_61).comes(-1));
    due.is("15: FIRST from DAY 999", 1, stillOnLastDay("s01000;s00000;").comes(-1));
  }

  /** "SHUT: SHIPS (bits) not IN behind the next DAY that would be, were they alone OUT." "SHUT looks at each SHIP by itself." */
  private static void shut() {
    due.is("16: of no SHIPS", 0, new TakesWhatItLacks().shut());
    // DRAWS 12, a LACK of 43: 7 leave 36, 8 leave 35.
    due.is("16: behind 7", 0, town("u09;s09007;s09000;").shut());
    due.is("16: behind 8", 2, town("u09;s09008;s09000;").shut());
    due.is("16: the last of seven", 64, town("u09;s09008;s10000;s10000;s10000;s10000;s10000;s09000;").shut());
    due.is("16: all but the first of seven", 126,
        town("u09;s09060;s09060;s09060;s09060;s09060;s09060;s09060;").shut());
    due.is("16: of a LACK of 35 none would be IN", 0, town("u09;t028;s09060;s09060;").shut());
    due.is("16: of a LACK of 36 the second", 2, town("u09;t027;s09060;s09060;").shut());
    due.is("16: one that is IN now", 0, town("u09;s09060;d01;").shut());
    due.is("16: on the DAY behind the next one", 0, town("u09;t028;d01;u19;s00160;s09060;").shut());
    // A MIXED one of GOOD 5 BRINGS the rest of GOOD 0: 7 of 14, 7 of 13, 8 of 15.
    due.is("16: behind the rest, 7", 0, town("u59;u09;s49514;s09000;").shut());
    due.is("16: behind the rest, 7 of 13", 0, town("u59;u09;s49513;s09000;").shut());
    due.is("16: behind the rest, 8 of 15", 2, town("u59;u09;s49515;s09000;").shut());
    // COUGHS of 26 less 9 are 17, over 9 1; of 27 less 9 18.
    due.is("16: behind a DOCTOR, 26", 2, still("c26;s30000;s30000;").shut());
    due.is("16: behind a DOCTOR, 27", 0, still("c27;s30000;s30000;").shut());
  }

  /** "BY WHOM: the first SHIP without which a told one, SHUT so, would be IN then; -9." "-9 (also if it is not SHUT)." */
  private static void byWhom() {
    due.is("17: by the first", 0, town("u09;s09008;s09000;").byWhom(1));
    due.is("17: not SHUT", -9, town("u09;s09007;s09000;").byWhom(1));
    due.is("17: not SHUT, for it comes", -9, town("u09;s09008;s09000;").byWhom(0));
    due.is("17: not SHUT, for it would not come alone", -9, town("u09;t028;s09060;s09060;").byWhom(1));
    due.is("17: not SHUT, for it is IN", -9, town("u09;s09060;d01;").byWhom(0));
    due.is("17: the last by the one ahead of it", 5,
        town("u09;s10000;s10000;s10000;s10000;s10000;s09008;s09000;").byWhom(6));
    due.is("17: the last by the first of all", 0,
        town("u09;s09008;s10000;s10000;s10000;s10000;s10000;s09000;").byWhom(6));
    due.is("17: 4 and 4, without either it would be IN: the first", 0, town("u09;s09004;s09004;s09000;").byWhom(2));
    due.is("17: 8 and 8, without either alone it would not", -9, town("u09;s09008;s09008;s09000;").byWhom(2));
    due.is("17: 7 and 8, the second", 1, town("u09;s09007;s09008;s09000;").byWhom(2));
    due.is("17: 8 and 7, the first", 0, town("u09;s09008;s09007;s09000;").byWhom(2));
    // 0 fills the LACK of 1, so five are not LACKED and 1 comes, which BRINGS the 8 that shut out 2.
    due.is("17: by one without which another would not come", 0,
        town("u09;t027;u19;t162;s20101;s27008;s09000;").byWhom(2));
  }

  private static void loads(String told, int good, int when, TakesWhatItLacks x, int ship) {
    due.is("18: the GOOD, " + told, good, x.loaded(ship, 0));
    due.is("18: when, " + told, when, x.loaded(ship, 1));
  }

  /** "LOADED: the GOOD for a SHIP by which it is IN soonest (within 60), of several the least; -9; when." */
  private static void loaded() {
    loads("the first", 0, 1, still("u09;t000;s09560;"), 0);
    loads("the last", 5, 1, still("u59;t500;s09060;"), 0);
    loads("the one it has", 5, 1, still("u59;t500;s09560;"), 0);
    loads("of several the least", 2, 1, still("u29;t200;u49;t400;s09060;"), 0);
    loads("all the same, by TIDE", 0, 4, still("s00500;"), 0);
    // Of 28 a LACK of 35, 11 and TIDE 0; a DAY later 44, 14 and TIDE 1. Of 27 a LACK of 36 at once.
    loads("the soonest, not the least", 3, 1, still("u19;t128;u39;t327;s09060;"), 0);
    loads("behind 60", 5, 60, still("u51;t560;s02000;"), 0);
    loads("behind 61", -9, -9, still("u51;t561;s02000;"), 0);
    loads("never", -9, -9, still("s02000;"), 0);
    loads("a MIXED one by the GOOD behind", 4, 1, still("u59;t500;s49000;"), 0);
    loads("a MIXED one by GOOD 0 behind 5", 0, 1, still("u09;t000;s49200;"), 0);
    loads("the last of seven", 0, 1, town(SIX_BRIDES, "s10500;"), 6);
    TakesWhatItLacks in = town("s10000;d01;");
    due.is("18: one that is IN", -3, in.loaded(0, 0));
    // The SHIP ahead of it fills the LACK of 1: by 1 it is shut out, by 2 it comes a DAY later.
    loads("shut out by one GOOD", 2, 2, still("u19;t127;u29;t228;s09199;s09100;"), 1);
  }

  /** "HIDE: the least number of a GOOD to be HIDDEN now ... so that a SHIP is IN within n DAYS (1 .. 60); -9." */
  private static void hide() {
    TakesWhatItLacks x = still(IN_BEHIND_60);
    due.is("19: none, within 60", 0, x.hide(5, 0, 60));
    // TIDE 4 on DAY 52 and a LACK of 3: 56 may be THERE at most. A DAY ahead TIDE 3 and a LACK of 6: 52 at most.
    due.is("19: 4, within 59", 4, x.hide(5, 0, 59));
    due.is("19: 4, within 53", 4, x.hide(5, 0, 53));
    due.is("19: 8, within 52", 8, x.hide(5, 0, 52));
    due.is("19: 12, within 51, on DAY 44", 12, x.hide(5, 0, 51));
    due.is("19: never, within 1", -9, x.hide(5, 0, 1));
    for (int n = 1; n <= 60; n++) {
      due.is("19: within " + n, leastHidden(n), x.hide(5, 0, n));
    }
    due.is("19: never, of another GOOD, within 59", -9, x.hide(0, 0, 59));
    due.is("19: none of another GOOD, within 60", 0, x.hide(0, 0, 60));
    due.is("19: all of it", 5, still("u53;t505;s04500;").hide(5, 0, 1));
    due.is("19: all of it is too little", -9, still("u53;t505;s05500;").hide(5, 0, 1));
    due.is("19: but at TIDE 1 a DAY later, of 3", 2, still("u53;t505;s05500;").hide(5, 0, 2));
    due.is("19: of none THERE none", 0, still("u53;t500;s04500;").hide(5, 0, 1));
    due.is("19: of none THERE, never", -9, still("u53;t500;s05500;").hide(5, 0, 1));
    due.is("19: 99", 99, still("u03;t099;s04000;").hide(0, 0, 1));
    due.is("19: one that is IN", 0, town("s10000;d01;").hide(0, 0, 1));
    due.is("19: one that is IN, of none THERE", 0, town("s10000;d01;t000;").hide(0, 0, 60));
    due.is("19: a BRIDE", 0, town("s10000;").hide(5, 0, 1));
    due.is("19: the last of seven", 15, town(SIX_BRIDES, "s00000;").hide(0, 6, 1));
  }

  /**
   * Of IN_BEHIND_60, so that it is IN within n DAYS, for each n. It comes at TIDE 4, on a DAY that is 4 modulo 8, if 4 are
   * THERE at most, so if 4 more than that DAY were now; or a DAY ahead or behind that, at TIDE 3, if 1 is.
   */
  private static int leastHidden(int n) {
    int most = -1;
    for (int day = 0; day < n; day++) {
      if (day % 8 == 4) {
        most = Math.max(most, day + 4);
      }
      if (day % 8 == 3 || day % 8 == 5) {
        most = Math.max(most, day + 1);
      }
    }
    return most < 0 ? -9 : Math.max(0, 60 - most);
  }

  /** "(HIDDEN no matter how many)"; "What is HIDDEN in mind counts for a SMUGGLER, too." */
  private static void hideNoMatterHowMany() {
    due.is("19: 72 beside 99", 72, town("t099;h099;t099;u09;s09000;").hide(0, 0, 1));
    due.is("19: 99 beside 99", 99, still("t099;h099;t099;u03;s04000;").hide(0, 0, 1));
    // DRAWS 6: of 99 HIDDEN 9 sink it; of none 60.
    due.is("19: none beside 99 of a SMUGGLER", 0, still("t099;h099;t099;s59000;").hide(0, 0, 1));
    due.is("19: 60 of a SMUGGLER", 60, still("t099;s59000;").hide(0, 0, 1));
    due.is("19: 1 beside 59 of a SMUGGLER", 1, still("t099;h059;t099;s59000;").hide(0, 0, 1));
    due.is("19: 59 THERE are too few", -9, still("t059;s59000;").hide(0, 0, 1));
    due.is("19: none of the GOOD behind counts", -9, still("t199;s59000;").hide(1, 0, 1));
    due.is("20: a SMUGGLER by what is HIDDEN", 1, still("t060;s59000;").fewest(0, 1));
    due.is("20: by 59, never", -9, still("t059;s59000;").fewest(0, 1));
    due.is("20: by 1 beside 99", 0, still("t099;h099;t001;s59000;").fewest(0, 1));
    due.is("20: by 99 beside 50", 1, still("t099;h050;t099;s59000;").fewest(0, 1));
    // DRAWS 6: of 15 LACKED 5, of 10 HIDDEN 1. It BRINGS 49: no LACK and 5 for hiding, not 8.
    due.is("28: a SMUGGLER by what is HIDDEN", 10, still("u13;t116;s59198;").two(1, 5, 1));
  }

  /** "FEWEST: the fewest GOODS (bits, of several the least) all of whose THERE is HIDDEN now so that it is IN within n DAYS; -9." */
  private static void fewest() {
    TakesWhatItLacks x = still(IN_BEHIND_60);
    due.is("20: none, within 60", 0, x.fewest(0, 60));
    due.is("20: the last GOOD, within 59", 32, x.fewest(0, 59));
    due.is("20: at TIDE 3, within 4", 32, x.fewest(0, 4));
    due.is("20: never, within 3", -9, x.fewest(0, 3));
    due.is("20: never, within 1", -9, x.fewest(0, 1));
    for (int n = 1; n <= 60; n++) {
      due.is("20: within " + n, n <= 3 ? -9 : n <= 59 ? 32 : 0, x.fewest(0, n));
    }
    due.is("20: the first GOOD", 1, still("u09;t063;s09060;").fewest(0, 1));
    due.is("20: of several the least", 2, still("u13;u23;s43160;").fewest(0, 1));
    due.is("20: both of them", 6, still("u13;u23;s49160;").fewest(0, 1));
    due.is("20: 5 and 0", 33, still("u53;u03;s49560;").fewest(0, 1));
    // All of 2 HIDDEN: 27 BROUGHT leave a LACK of 36. Or 0 and 1: the BALLAST, that DRAWS 4, finds three not LACKED.
    due.is("20: one GOOD rather than two that are less as bits", 4, town("u29;t227;s25227;s09260;").fewest(1, 1));
    // DRAWS 2 at TIDE 1: all but one LACKED let it in, so each of the six must be.
    due.is("20: all six", 63, town("d01;s20099;s02000;").fewest(1, 1));
    due.is("20: one that is IN", 0, town("s10000;d01;").fewest(0, 60));
    due.is("20: the last of seven", 1, town(SIX_BRIDES, "s00000;").fewest(6, 1));
  }

  /** "FOR: GOODS (bits) each without whose LACK (were it 0) a SHIP would not be IN behind the next DAY, of one that is; 0 it is not." */
  private static void forWhat() {
    due.is("21: the first", 1, still("u09;t000;s09000;").forWhat(0));
    due.is("21: the last", 32, still("u59;t500;s09500;").forWhat(0));
    due.is("21: it is not IN then", 0, still("u59;t528;s09500;").forWhat(0));
    due.is("21: by TIDE alone", 0, still("d03;s00500;").forWhat(0));
    due.is("21: one that is IN", -3, town("s10000;d01;").forWhat(0));
    // MIXED of GOOD 5 DRAWS 13: a third of 33 is 11, of 36 12, of 39 13.
    due.is("21: both, 33 and 33", 33, still("u59;t530;u09;t030;s49500;").forWhat(0));
    due.is("21: both, 36 and 36", 33, still("u59;t527;u09;t027;s49500;").forWhat(0));
    due.is("21: of 39 and 36 the one of 39", 32, still("u59;t524;u09;t027;s49500;").forWhat(0));
    due.is("21: of 36 and 39 the one of 39", 1, still("u59;t527;u09;t024;s49500;").forWhat(0));
    due.is("21: by either, 39 and 39", 0, still("u59;t524;u09;t024;s49500;").forWhat(0));
    due.is("21: the last of seven", 32,
        still("u59;t500;s10000;s10000;s10000;s10000;s10000;s10000;s09500;").forWhat(6));
  }

  /** "FOR: LACK of that GOOD is 0 all through that DAY, for all SHIPS." */
  private static void forAllShips() {
    // Were 0 not LACKED, five were not, and the BALLAST, that DRAWS 5, came and filled 1 ahead of the SHIP.
    due.is("21: of a GOOD whose LACK keeps another out", 3, still("u09;t062;u19;t127;s27160;s09100;").forWhat(1));
    due.is("21: of one that DRAWS 6, five are too few", 2, still("u09;t062;u19;t127;s28160;s09100;").forWhat(1));
    // Were 1 not LACKED, the first SHIP did not come, which fills it for the BALLAST: but it is not LACKED then.
    due.is("21: 0 for those behind, too", 0, still("u19;t127;s09199;s29100;").forWhat(1));
  }

  /** "WANT: LACK of all GOODS together behind 0 .. n DAYS (0 .. 60), all of them together." */
  private static void want() {
    // THERE 7, 1 USED a DAY: a LACK of 0, 1, .. 7, and 7 on.
    int[] wants = {0, 1, 3, 6, 10, 15, 21, 28, 35};
    TakesWhatItLacks x = still("u51;t507;");
    TakesWhatItLacks last = stillOnLastDay("u51;t507;");
    for (int n = 0; n < wants.length; n++) {
      due.is("22: want(" + n + ")", wants[n], x.want(n));
      due.is("22: want(" + n + ") on DAY 999", wants[n], last.want(n));
    }
    for (int n = 8; n <= 60; n++) {
      due.is("22: want(" + n + ")", 28 + (n - 7) * 7, x.want(n));
    }
    due.is("22: want(60)", 28 + 53 * 7, x.want(60));
    due.is("22: want(60) on DAY 999", 28 + 53 * 7, last.want(60));
    due.is("22: none", 0, still("c00;").want(60));
    TakesWhatItLacks all = town("u09;u19;u29;u39;u49;u59;t000;t100;t200;t300;t400;t500;");
    due.is("22: of all that can be, now", 378, all.want(0));
    due.is("22: of all that can be, within 60", 61 * 378, all.want(60));
  }

  private static void bareIs(String told, int which, int when, TakesWhatItLacks x) {
    due.is("23: which, " + told, which, x.bare(0));
    due.is("23: when, " + told, when, x.bare(1));
  }

  /** "BARE: the GOOD of which nothing is THERE first (0 .. 60), of several the least; -9; when." */
  private static void bare() {
    bareIs("none", -9, -9, still("c00;"));
    bareIs("the first, now", 0, 0, still("t000;"));
    bareIs("the last, now", 5, 0, still("t500;"));
    bareIs("of several the least, now", 0, 0, still("t000;t500;"));
    bareIs("behind 1", 5, 1, still("u59;t509;"));
    bareIs("behind 1, more USED than THERE", 5, 1, still("u59;t508;"));
    bareIs("behind 2", 5, 2, still("u59;t510;"));
    bareIs("behind 60", 5, 60, still("u51;t560;"));
    bareIs("behind 61", -9, -9, still("u51;t561;"));
    bareIs("the last sooner than the first", 5, 59, still("u51;t559;u01;t060;"));
    bareIs("both behind 60", 0, 60, still("u51;t560;u01;t060;"));
    bareIs("all HIDDEN", 5, 0, still("h520;"));
    bareIs("from DAY 999", 5, 60, stillOnLastDay("u51;t560;"));
    // A BALLAST BRINGS 1 ahead of what is USED: 9 less 9 were none, 10 less 9 are 1.
    bareIs("a LOAD of 1 keeps it a DAY", 5, 2, still("u59;t509;s20501;"));
  }

  /** "LASTS: how many DAYS a GOOD lasts without any SHIP (0 .. 99): THERE over USED, rounded up; 99 if none is USED or it is more." */
  private static void lasts() {
    int[][] thereUsedDays = {{0, 1, 0}, {0, 9, 0}, {1, 9, 1}, {8, 9, 1}, {9, 9, 1}, {10, 9, 2}, {18, 9, 2}, {19, 9, 3},
      {99, 9, 11}, {98, 1, 98}, {99, 1, 99}, {99, 2, 50}, {98, 2, 49}, {97, 2, 49}, {1, 1, 1}, {0, 0, 99}, {1, 0, 99},
      {99, 0, 99}};
    for (int[] row : thereUsedDays) {
      for (int good = 0; good <= 5; good++) {
        String there = "" + row[0] / 10 + row[0] % 10;
        TakesWhatItLacks x = still("u" + good + row[1] + ";t" + good + there + ";s20" + good + "99;");
        due.is("24: " + row[0] + " over " + row[1] + " of " + good, row[2], x.lasts(good));
      }
    }
  }

  /** "BEST: the SHIP OUT without which WANT within n DAYS were most more, of several the least; -9." "-9, too, if WANT were not more without any." */
  private static void best() {
    due.is("25: of no SHIPS", -9, new TakesWhatItLacks().best(60));
    // 9 USED, none THERE: a LOAD of 9 is USED up by the evening, of 10 1 is left.
    due.is("25: a LOAD of 9, none more", -9, still("u09;t000;s09009;").best(1));
    due.is("25: a LOAD of 10, 1 more", 0, still("u09;t000;s09010;").best(1));
    due.is("25: a LOAD of 9, none more within 60", -9, still("u09;t000;s09009;").best(60));
    due.is("25: a LOAD of 10 within 60", 0, still("u09;t000;s09010;").best(60));
    due.is("25: within no DAYS", -9, still("u09;t000;s09010;").best(0));
    for (int n = 1; n <= 60; n++) {
      due.is("25: a LOAD of 10 within " + n, 0, still("u09;t000;s09010;").best(n));
    }
    due.is("25: the last of seven", 6,
        still("u09;t000;s10000;s10000;s10000;s10000;s10000;s10000;s09010;").best(1));
    due.is("25: of two the same the least", 0, still("u09;t000;s09010;s09010;").best(60));
    due.is("25: of 10 and 11 the second", 1, still("u09;t000;s09010;s09011;").best(60));
    due.is("25: one that comes behind 1", -9, still("u01;t007;u19;t128;s09150;").best(1));
    due.is("25: within 2", 0, still("u01;t007;u19;t128;s09150;").best(2));
    due.is("25: one that is IN", -9, still("u09;t000;s09050;d01;").best(60));
    due.is("25: a BRIDE", -9, still("u09;t000;s10099;").best(60));
    due.is("25: from DAY 999", 1, stillOnLastDay("u09;t000;s10099;s09050;").best(60));
  }

  private static void row(TakesWhatItLacks x, int... numbers) {
    x.clear();
    for (int number : numbers) {
      x.row(number);
    }
  }

  private static void towns(TakesWhatItLacks x, int good, int many, int least, int greatest, int... numbers) {
    row(x, numbers);
    String told = " of " + good + " by " + java.util.Arrays.toString(numbers);
    due.is("26: how many" + told, many, x.whichTown(good, 0));
    due.is("26: the least" + told, least, x.whichTown(good, 1));
    due.is("26: the greatest" + told, greatest, x.whichTown(good, 2));
    due.is("26: the ROW stays" + told, numbers.length, x.count(6));
  }

  /** "WHICH TOWN: a ROW tells how many are IN behind 0, 1, .. DAYS: how many numbers THERE (0 .. 99) of a GOOD now make it so; the least; the greatest (-9)." */
  private static void whichTown() {
    // 9 USED, DRAWS 12, TIDE 0, 1, 2, 3, 4, 3, 2, 1, 0: IN behind 1 by 27 at most, then by 39, 51, 63, 75, 81, 87, 93, 99.
    int[] bounds = {-1, 27, 39, 51, 63, 75, 81, 87, 93, 99};
    TakesWhatItLacks[] xs = {still("u09;s09060;"), still("u59;s09560;")};
    for (int which = 0; which < 2; which++) {
      TakesWhatItLacks x = xs[which];
      int good = 5 * which;
      towns(x, good, 100, 0, 99);
      towns(x, good, 100, 0, 99, 0);
      towns(x, good, 0, -9, -9, 1);
      for (int behind = 1; behind <= 9; behind++) {
        int[] numbers = new int[behind + 1];
        numbers[behind] = 1;
        towns(x, good, bounds[behind] - bounds[behind - 1], bounds[behind - 1] + 1, bounds[behind], numbers);
        int[] none = new int[behind + 1];
        int out = 99 - bounds[behind];
        towns(x, good, out, out == 0 ? -9 : bounds[behind] + 1, out == 0 ? -9 : 99, none);
      }
      towns(x, good, 6, 94, 99, 0, 0, 0, 0, 0, 0, 0, 0, 0, 1, 1, 1);
      towns(x, good, 0, -9, -9, 0, 0, 0, 0, 0, 0, 0, 0, 0, 1, 1, 0);
      towns(x, good, 0, -9, -9, 0, 2);
      towns(x, good, 0, -9, -9, 0, 99);
      towns(x, 3, 0, -9, -9, 0, 0);
    }
    TakesWhatItLacks seven = town(SIX_BRIDES, "s10000;");
    towns(seven, 0, 100, 0, 99, 0, 7);
    towns(seven, 0, 0, -9, -9, 0, 6);
    seven.days(1);
    towns(seven, 0, 100, 0, 99, 7, 7, 7, 7, 7, 7, 7, 7, 7, 7, 7, 7);
    TakesWhatItLacks none = new TakesWhatItLacks();
    towns(none, 0, 100, 0, 99, 0, 0, 0, 0, 0, 0, 0, 0, 0, 0, 0, 0);
    towns(none, 0, 0, -9, -9, 1);
    // From DAY 999: TIDE 1, then 0, 1, 2: 30 at most; then by 36, 48, 60 (27, 30, 33 and what is USED till then).
    TakesWhatItLacks last = stillOnLastDay("u09;s09060;");
    towns(last, 0, 31, 0, 30, 0, 1);
    towns(last, 0, 6, 31, 36, 0, 0, 1);
    towns(last, 0, 12, 37, 48, 0, 0, 0, 1);
  }

  private static void kinds(TakesWhatItLacks x, int kinds, int figures, int... numbers) {
    row(x, numbers);
    String told = " by " + java.util.Arrays.toString(numbers);
    due.is("27: KINDS" + told, kinds, x.whatKind(0, 0));
    due.is("27: FIGURES" + told, figures, x.whatKind(0, 1));
    due.is("27: the ROW stays" + told, numbers.length, x.count(6));
  }

  /** "WHAT KIND: a ROW tells DEPTH for a SHIP behind 0, 1, .. DAYS (IN, too): KINDS (bits) of it by which all of it is so; FIGURES (bits 0 .. 9)." */
  private static void whatKind() {
    kinds(still("s00000;"), 63, 1023);
    kinds(still("s00000;"), 57, 1023, 0);
    kinds(still("s00000;"), 4, 0, 6);
    kinds(still("s00000;"), 2, 0, 9);
    kinds(still("s00000;"), 0, 0, 5);
    kinds(still("s00000;"), 0, 0, 99);
    kinds(still("c90;s00000;"), 8, 0, 10);
    kinds(still("h020;s00000;"), 32, 0, 2);
    kinds(still("h010;u19;t160;s00000;"), 16, 0, 1);
    kinds(still("u09;t060;s00000;"), 49, 1023, 1);
    // A LACK of 9 sinks 3: only FIGURE 0 is IN, and 60 BROUGHT leave no LACK; without them 18, so 6 and TIDE 1. Of
    // FIGURE 5 neither a SHIP (DRAWS 8) nor a MIXED one (9) nor a SMUGGLER (4) is.
    kinds(still("u09;t054;s05060;"), 0, 1, 3, 1);
    kinds(still("u09;t054;s05060;"), 49, 1022, 3, 7);
    // A LACK of 35 sinks 11: FIGURE 9, that DRAWS 12, is not IN; a DAY later a LACK of 44, so 14 and TIDE 1.
    kinds(still("u09;t028;s05060;"), 1, 511, 11, 1);
    kinds(still("u09;t028;s05060;"), 0, 512, 11, 15);
    kinds(still("u09;t027;s05060;"), 1, 1023, 12, 1);
    kinds(still("s19000;"), 2, 1023, 9, 10, 11, 12, 13, 12, 11, 10, 9, 10, 11, 12);
    kinds(still("s19000;"), 0, 0, 9, 10, 11, 12, 13, 12, 11, 10, 9, 10, 11, 11);
    kinds(still("s10000;d01;"), 2, 1023, 10);
    kinds(still("s10000;d01;"), 57, 0, 1);
    kinds(stillOnLastDay("s10000;"), 2, 1023, 10, 9, 10);
    // IN it BRINGS no more: 63 are LACKED still, 21 and TIDE 1, 21 and TIDE 2.
    kinds(still("s20160;d01;u19;t100;"), 49, 0, 22, 23);
    kinds(still("s20160;d01;u19;t100;"), 4, 1023, 6, 7);
    TakesWhatItLacks seven = still("s10000;s10000;s10000;s10000;s10000;s10000;s00000;");
    row(seven, 6);
    due.is("27: KINDS of the last of seven", 4, seven.whatKind(6, 0));
    due.is("27: FIGURES of the last of seven", 0, seven.whatKind(6, 1));
  }

  /** "each HIDES 10 of its GOOD (what there is, if less) now (1) or not (0)"; "behind n DAYS (0 .. 60)"; "has 5 less for hiding". */
  private static void two() {
    // DRAWS 7: only of none THERE is 21 LACKED. 99 BROUGHT leave no LACK behind the DAY.
    due.is("28: of 9 all", 10, still("u13;t109;s04199;").two(1, 0, 1));
    due.is("28: of 10 all", 10, still("u13;t110;s04199;").two(1, 0, 1));
    due.is("28: of 11 not all", 0, still("u13;t111;s04199;").two(1, 0, 1));
    due.is("28: of 9 all, the second", 1, still("u13;t109;s04199;").two(0, 1, 1));
    due.is("28: of 10 all, the second", 1, still("u13;t110;s04199;").two(0, 1, 1));
    due.is("28: of 11 not all, the second", 0, still("u13;t111;s04199;").two(0, 1, 1));
    // DRAWS 8: 7 less 10 were a LACK of 24; but 0 is the least THERE.
    due.is("28: of 7 no more than 7", 0, still("u13;t107;s05199;").two(1, 0, 1));
    due.is("28: of 7 no more than 7, the second", 0, still("u13;t107;s05199;").two(0, 1, 1));
    due.is("28: of none THERE", 0, still("u13;t100;s05199;").two(1, 0, 1));
    due.is("28: of none THERE, the second", 0, still("u13;t100;s05199;").two(0, 1, 1));
    // Of 18 10 are HIDDEN, though of the other GOOD there are 4 alone: 13 are LACKED, 4 as it DRAWS. So 5, not 6.
    due.is("28: 10 of its own, whatever is THERE of the other", 10, still("u13;t118;t004;s01199;").two(1, 0, 1));
    due.is("28: 10 of its own, the second", 1, still("u13;t118;t004;s01199;").two(0, 1, 1));
    due.is("28: behind no DAYS", 0, still("u13;t109;s04199;").two(1, 0, 0));
    due.is("28: the first and the last GOOD", 10, still("u53;t509;s04599;").two(5, 0, 1));
    due.is("28: the last and the first GOOD", 1, still("u53;t509;s04599;").two(0, 5, 1));
    // Of 61 it is not IN within 60, a LACK of 6 then; of 51 it is, on DAY 51: none, and 5. Behind 59 a LACK of 5.
    TakesWhatItLacks x = still("u51;t561;s02599;");
    due.is("28: behind 60", 10, x.two(5, 0, 60));
    due.is("28: behind 60, the second", 1, x.two(0, 5, 60));
    due.is("28: behind 59, 5 is not better than 5", 0, x.two(5, 0, 59));
    for (int n = 0; n <= 58; n++) {
      due.is("28: behind " + n + " it is a LACK of 4 at most", 0, x.two(5, 0, n));
    }
    due.is("28: of 60 it is IN without", 0, still("u51;t560;s02599;").two(5, 0, 60));
    due.is("28: behind 60 from DAY 999, at TIDE 4 on DAY 1060 alone", 0, stillOnLastDay("u51;t564;s02599;").two(5, 0, 60));
  }

  /** "the first pair (10 the first's and the second's) by which neither has it better by another choice alone; -9." */
  private static void twoFirstPair() {
    // MIXED of 1 and 2, DRAWS 13, 60 BROUGHT. Of 18 and 18 LACKED 12 sink it; if one hides, 15: 7 and 5, not 27.
    TakesWhatItLacks either = still("u19;t145;u29;t245;s49160;");
    due.is("28: either will do: the second hides", 1, either.two(1, 2, 1));
    due.is("28: and so the other way round", 1, either.two(2, 1, 1));
    // Of 12 and 12 LACKED 8 sink it, if one hides 11, if both hide 14: 1 and 5 each, not 21. But neither alone.
    due.is("28: neither or both: neither", 0, still("u19;t151;u29;t251;s49160;").two(1, 2, 1));
    // A SHIP for each that comes if its house hides: 27 + 10 THERE, a LACK of 36 then; without 35 a DAY later, no 5.
    due.is("28: both", 11, town("u09;t037;s09060;u19;t137;s09160;").two(0, 1, 1));
    due.is("28: no pair", -9, town("t043;u07;t116;u16;s47052;s01138;").two(0, 1, 2));
  }

  private static void fraction(TakesWhatItLacks x, int ship, int n, int t, long above, long below) {
    String call = "29: storms(" + ship + ", " + n + ", " + t + ", ";
    due.is(call + "0)", above, x.storms(ship, n, t, 0));
    due.is(call + "1)", below, x.storms(ship, n, t, 1));
  }

  /** "STORMS: on each of n DAYS (0 .. 7), by itself, no SHIP comes IN with odds 1 in t (2 .. 20)"; "in lowest terms; 0 as 0 over 1". */
  private static void storms() {
    // DRAWS 3: it can come on DAY 3, 4 or 5.
    TakesWhatItLacks x = still("s00000;s10000;");
    fraction(x, 0, 0, 2, 0, 1);
    fraction(x, 0, 3, 2, 0, 1);
    fraction(x, 0, 4, 2, 1, 2);
    fraction(x, 0, 5, 2, 3, 4);
    fraction(x, 0, 6, 2, 7, 8);
    fraction(x, 0, 7, 2, 7, 8);
    fraction(x, 0, 7, 20, 7999, 8000);
    fraction(x, 0, 0, 20, 0, 1);
    for (int t = 2; t <= 20; t++) {
      fraction(x, 0, 4, t, t - 1, t);
      fraction(x, 0, 5, t, t * t - 1, t * t);
      fraction(x, 0, 2, t, 0, 1);
    }
    fraction(x, 1, 0, 2, 0, 1);
    fraction(x, 1, 1, 2, 1, 2);
    fraction(x, 1, 1, 20, 19, 20);
    fraction(x, 1, 2, 3, 8, 9);
    fraction(x, 1, 7, 2, 127, 128);
    fraction(x, 1, 7, 20, 1279999999L, 1280000000L);
    fraction(town("s10000;d01;"), 0, 0, 2, 1, 1);
    fraction(town("s10000;d01;"), 0, 7, 20, 1, 1);
    fraction(still("s02000;"), 0, 7, 20, 0, 1);
    TakesWhatItLacks last = stillOnLastDay("s00000;");
    fraction(last, 0, 4, 5, 0, 1);
    fraction(last, 0, 5, 5, 4, 5);
    fraction(last, 0, 7, 5, 124, 125);
    fraction(town(SIX_BRIDES, "s10000;"), 6, 1, 4, 3, 4);
    // DRAWS 12. On DAY 0 27 are LACKED, 9; the BALLAST behind it fills it for all 7 DAYS. But if a storm keeps both out
    // on DAY 0, then on the next DAY without one, 36 or more LACKED, it is ahead of the BALLAST.
    TakesWhatItLacks storm = still("u19;t136;s09100;s20160;");
    fraction(storm, 0, 1, 2, 0, 1);
    fraction(storm, 0, 2, 2, 1, 4);
    fraction(storm, 0, 2, 20, 19, 400);
    fraction(storm, 0, 7, 2, 63, 128);
    fraction(storm, 1, 1, 20, 19, 20);
  }

  /** "LOTS with a seed z: n ports (1 .. 20), each from now: THERE of each GOOD is a DRAW below 40, then 10 DAYS". */
  private static void lots() {
    int[] seeds = {Integer.MIN_VALUE, -1, 0, 1, Integer.MAX_VALUE};
    for (int z : seeds) {
      // 9 USED in 10 DAYS: of 39 at most none is left, a LACK of 63 in each port.
      TakesWhatItLacks x = still("u59;s10000;");
      for (int n = 1; n <= 20; n++) {
        due.is("42: WANT of " + n + " ports, seed " + z, 63 * n, x.lots(n, z, 1));
        due.is("42: who is IN of " + n + " ports, seed " + z, n, x.lots(n, z, 0));
      }
      due.is("42: none of the ports is real", 0, x.count(3));
      due.is("42: nor the DRAWS", 20, x.good(5, 0));
      x.days(1);
      due.is("42: those that are IN now are IN in each port, seed " + z, 20, x.lots(20, z, 0));
      TakesWhatItLacks seven = town(SIX_BRIDES, "s10000;");
      due.is("42: seven SHIPS in 20 ports, seed " + z, 140, seven.lots(20, z, 0));
      due.is("42: no SHIPS, seed " + z, 0, new TakesWhatItLacks().lots(20, z, 0));
      due.is("42: none is USED, seed " + z, 0, still("c00;").lots(20, z, 1));
      due.is("42: 10 DAYS from DAY 999, to TIDE 4, seed " + z, 1, stillOnLastDay("s01000;").lots(1, z, 0));
    }
    // The first DRAWS of seed 0, each reckoned: z 12345 is 0 over 65536; then 3554416254, less its sign's bit over 65536
    // 21468, modulo 40 28; 2802067423, 9988, 28; 3596950572, 22117, 37; 229283573, 3498, 18; 3256818826, 16927, 7.
    int[] there = {0, 28, 28, 37, 18, 7};
    for (int good = 0; good < 6; good++) {
      // 2 USED: what is above 20 is left behind 10 DAYS.
      TakesWhatItLacks x = still("u" + good + "2;");
      int left = Math.max(0, there[good] - 20);
      due.is("42: a port of seed 0, GOOD " + good, Math.max(0, 14 - left), x.lots(1, 0, 1));
    }
    lotsOneBehindTheOther(there);
  }

  /** The second port goes on with the seed as the first left it, but is "from now" in all else. */
  private static void lotsOneBehindTheOther(int[] first) {
    // z 1051550459, 3441282840, 2941955441, 551188310, 2951033815, 1772930244: over 65536, modulo 40.
    int[] second = {5, 21, 2, 10, 21, 12};
    for (int good = 0; good < 6; good++) {
      TakesWhatItLacks x = still("u" + good + "2;");
      int lackOfFirst = Math.max(0, 14 - Math.max(0, first[good] - 20));
      int lackOfSecond = Math.max(0, 14 - Math.max(0, second[good] - 20));
      due.is("42: two ports of seed 0, GOOD " + good, lackOfFirst + lackOfSecond, x.lots(2, 0, 1));
    }
    // A LOAD of 99 less 50 USED at most leaves no LACK of 35, if it is BROUGHT in each port anew.
    TakesWhatItLacks loaded = still("u55;s20599;");
    for (int n = 1; n <= 20; n++) {
      due.is("42: a LOAD in each of " + n + " ports", 0, loaded.lots(n, n, 1));
    }
  }

  public static void main(String[] args) {
    thereIn();
    then();
    comes();
    first();
    shut();
    byWhom();
    loaded();
    hide();
    hideNoMatterHowMany();
    fewest();
    forWhat();
    forAllShips();
    want();
    bare();
    lasts();
    best();
    whichTown();
    whatKind();
    two();
    twoFirstPair();
    storms();
    lots();
    due.end("MindEdgeTest");
  }
}
