/** Promises 13 to 29, and 42: what is looked at in mind. */
final class MindTest {
  private static final int LEAST = Integer.MIN_VALUE;
  private static final int GREATEST = Integer.MAX_VALUE;
  private static final long LONG_BELOW = 4000000000000000004L;
  private static final Due due = new Due();

  /** A SHIP that is IN first behind 60 DAYS, and one that would be behind 61. */
  private static final String IN_BEHIND_60 = "u01;t060;s02000;";
  private static final String IN_BEHIND_61 = "u01;t061;s02000;";
  private static final String SHUT_OUT = "u09;s09060;s09060;";
  private static final String NOTHING_USED = "u00;u10;u20;u30;u40;u50;";

  private static void refused(String promise, TakesWhatItLacks x, int nobody, int other, int state, int below, int room) {
    due.is(promise + ": refused -1", nobody, x.count(11));
    due.is(promise + ": refused -2", other, x.count(12));
    due.is(promise + ": refused -3", state, x.count(13));
    due.is(promise + ": refused -4", below, x.count(14));
    due.is(promise + ": refused -5", 0, x.count(15));
    due.is(promise + ": refused -6", room, x.count(16));
  }

  private static void promise13ThereIn() {
    TakesWhatItLacks x = Due.town("s10000;s00330;");
    due.is("13: thereIn(0, 0)", 20, x.thereIn(0, 0));
    due.is("13: thereIn(0, 9)", 2, x.thereIn(0, 9));
    due.is("13: thereIn(0, 60)", 0, x.thereIn(0, 60));
    due.is("13: thereIn(3, 3)", 14, x.thereIn(3, 3));
    due.is("13: thereIn(3, 4), with a LOAD", 42, x.thereIn(3, 4));
    due.is("13: now", 20, x.good(3, 0));
    due.is("13: no DAY went by", 0, x.count(1));
    due.is("13: thereIn(6, -1)", -1, x.thereIn(6, -1));
    due.is("13: thereIn(-1, 61)", -1, x.thereIn(-1, 61));
    due.is("13: thereIn(0, -1)", -4, x.thereIn(0, -1));
    due.is("13: thereIn(0, least)", -4, x.thereIn(0, LEAST));
    due.is("13: thereIn(0, 61)", -6, x.thereIn(0, 61));
    due.is("13: thereIn(0, greatest)", -6, x.thereIn(0, GREATEST));
    refused("13", x, 2, 0, 0, 2, 2);
  }

  private static void promise14Then() {
    TakesWhatItLacks x = Due.town("s00330;s10000;");
    due.is("14: then(3, 0)", 0, x.then(3, 0));
    due.is("14: then(5, 0)", 2, x.then(5, 0));
    due.is("14: then(60, 0)", 57, x.then(60, 0));
    due.is("14: then(0, 1)", 0, x.then(0, 1));
    due.is("14: then(1, 1)", 2, x.then(1, 1));
    due.is("14: then(4, 1)", 3, x.then(4, 1));
    due.is("14: now", 0, x.count(3));
    due.is("14: then(-1, 2)", -4, x.then(-1, 2));
    due.is("14: then(61, -1)", -6, x.then(61, -1));
    due.is("14: then(0, -1)", -2, x.then(0, -1));
    due.is("14: then(0, 2)", -2, x.then(0, 2));
    refused("14", x, 0, 2, 0, 1, 1);
    for (int i = 0; i < 16; i++) {
      x.days(60);
    }
    x.days(39);
    x.sends(1, 0);
    due.is("14: DAY may pass 999 in mind", 3, x.then(60, 1));
    due.is("14: COUGHS 99 at most", 99, x.then(60, 0));
  }

  private static void promise15Comes() {
    TakesWhatItLacks x = Due.town("s09000;s00330;s10000;s10000;");
    due.is("15: comes(0)", -9, x.comes(0));
    due.is("15: comes(1)", 4, x.comes(1));
    due.is("15: comes(2)", 1, x.comes(2));
    due.is("15: FIRST, of several the least", 2, x.comes(-1));
    x.days(1);
    due.is("15: comes(2), IN", 0, x.comes(2));
    due.is("15: FIRST of those OUT", 1, x.comes(-1));
    x.days(3);
    due.is("15: none comes", -9, x.comes(-1));
    due.is("15: comes(-2)", -1, x.comes(-2));
    due.is("15: comes(4)", -1, x.comes(4));
    due.is("15: comes(least)", -1, x.comes(LEAST));
    due.is("15: comes(greatest)", -1, x.comes(GREATEST));
    refused("15", x, 4, 0, 0, 0, 0);
    due.is("15: behind 60", 60, Due.town(IN_BEHIND_60).comes(0));
    due.is("15: FIRST behind 60", 0, Due.town(IN_BEHIND_60).comes(-1));
    due.is("15: behind 61", -9, Due.town(IN_BEHIND_61).comes(0));
    due.is("15: FIRST behind 61", -9, Due.town(IN_BEHIND_61).comes(-1));
    due.is("15: FIRST of none", -9, new TakesWhatItLacks().comes(-1));
    TakesWhatItLacks y = Due.town(SHUT_OUT);
    due.is("15: comes(0) that shuts out 1", 1, y.comes(0));
    due.is("15: comes(1) that is shut out", 6, y.comes(1));
  }

  private static void promise16Shut() {
    due.is("16: none", 0, new TakesWhatItLacks().shut());
    TakesWhatItLacks x = Due.town(SHUT_OUT);
    due.is("16: shut()", 2, x.shut());
    x.days(1);
    due.is("16: neither the next DAY", 0, x.shut());
    due.is("16: two", 6, Due.town("u09;s09060;s09060;s09060;").shut());
    due.is("16: by a DOCTOR", 4, Due.town("u00;c18;s09360;s30360;s30360;").shut());
    due.is("16: those that come IN together", 0, Due.town("s10000;s10000;").shut());
    due.is("16: one that would not be IN anyway", 0, Due.town("u09;s09060;s09160;").shut());
    due.is("16: one that is IN shuts out nobody", 0, Due.town("u09;s09001;d01;s00000;").shut());
  }

  private static void promise17ByWhom() {
    TakesWhatItLacks x = Due.town(SHUT_OUT);
    due.is("17: byWhom(1)", 0, x.byWhom(1));
    due.is("17: byWhom(0), not SHUT", -9, x.byWhom(0));
    due.is("17: byWhom(2)", -1, x.byWhom(2));
    due.is("17: byWhom(-1)", -1, x.byWhom(-1));
    due.is("17: byWhom(greatest)", -1, x.byWhom(GREATEST));
    due.is("17: byWhom(least)", -1, x.byWhom(LEAST));
    refused("17", x, 4, 0, 0, 0, 0);
    TakesWhatItLacks y = Due.town("u09;s09060;s09060;s09060;");
    due.is("17: by two of them", -9, y.byWhom(2));
    due.is("17: by the first", 0, y.byWhom(1));
    due.is("17: it is IN", -9, Due.town("s10000;d01;").byWhom(0));
    due.is("17: by the second", 1, Due.town("u00;c18;s09360;s30360;s30360;").byWhom(2));
    // LACK 43: 8 more leave 35 (11 of 12), either of two times 4 would leave 39.
    due.is("17: of two that do it together the first", 0, Due.town("u09;s09004;s09004;s09060;").byWhom(2));
  }

  private static void promise18Loaded() {
    TakesWhatItLacks x = Due.town("u09;t063;u19;s09260;s10000;");
    due.is("18: the GOOD", 1, x.loaded(0, 0));
    due.is("18: when", 1, x.loaded(0, 1));
    due.is("18: it is as it was", 2, x.shipOf(0, 2));
    due.is("18: a BRIDE, of several the least", 0, x.loaded(1, 0));
    due.is("18: a BRIDE, when", 1, x.loaded(1, 1));
    TakesWhatItLacks y = Due.town("s09060;s10000;d01;");
    due.is("18: never", -9, y.loaded(0, 0));
    due.is("18: never, when", -9, y.loaded(0, 1));
    due.is("18: loaded(2, 2)", -1, y.loaded(2, 2));
    due.is("18: loaded(-1, 0)", -1, y.loaded(-1, 0));
    due.is("18: loaded(1, 2), IN", -2, y.loaded(1, 2));
    due.is("18: loaded(0, -1)", -2, y.loaded(0, -1));
    due.is("18: loaded(1, 0), IN", -3, y.loaded(1, 0));
    refused("18", y, 2, 2, 1, 0, 0);
    TakesWhatItLacks z = Due.town(NOTHING_USED + "u21;t260;s02000;");
    due.is("18: behind 60", 2, z.loaded(0, 0));
    due.is("18: behind 60, when", 60, z.loaded(0, 1));
    due.is("18: behind 61", -9, Due.town(NOTHING_USED + "u21;t261;s02000;").loaded(0, 0));
  }

  private static void promise19Hide() {
    TakesWhatItLacks x = Due.town("u09;t063;s09060;");
    due.is("19: within 1", 36, x.hide(0, 0, 1));
    due.is("19: within 2", 24, x.hide(0, 0, 2));
    due.is("19: within 3", 12, x.hide(0, 0, 3));
    due.is("19: within 4", 0, x.hide(0, 0, 4));
    due.is("19: of another GOOD, never", -9, x.hide(1, 0, 3));
    due.is("19: none is HIDDEN", 0, x.hidden());
    due.is("19: hide(6, 0, 0)", -1, x.hide(6, 0, 0));
    due.is("19: hide(-1, 0, 61)", -1, x.hide(-1, 0, 61));
    due.is("19: hide(0, 1, 0)", -1, x.hide(0, 1, 0));
    due.is("19: hide(0, -1, 1)", -1, x.hide(0, -1, 1));
    due.is("19: hide(0, 0, 0)", -4, x.hide(0, 0, 0));
    due.is("19: hide(0, 0, least)", -4, x.hide(0, 0, LEAST));
    due.is("19: hide(0, 0, 61)", -6, x.hide(0, 0, 61));
    due.is("19: hide(0, 0, greatest)", -6, x.hide(0, 0, GREATEST));
    refused("19", x, 4, 0, 0, 2, 2);
    due.is("19: what is HIDDEN counts for a SMUGGLER", 20, Due.town("s59160;").hide(1, 0, 1));
    due.is("19: HIDDEN no matter how many", 15, Due.town("t099;h099;t020;s00000;").hide(0, 0, 1));
    due.is("19: it is IN", 0, Due.town("s10000;d01;").hide(0, 0, 1));
    due.is("19: within 60", 0, Due.town(IN_BEHIND_60).hide(0, 0, 60));
    due.is("19: within 59", 7, Due.town("u01;t060;s03000;").hide(0, 0, 59));
    due.is("19: all of it", 5, Due.town("u03;t005;s04000;").hide(0, 0, 1));
    due.is("19: all of it is not enough", -9, Due.town("u03;t005;s05000;").hide(0, 0, 1));
  }

  private static void promise20Fewest() {
    due.is("20: one", 1, Due.town("u09;t063;s09060;").fewest(0, 1));
    due.is("20: none", 0, Due.town("u09;t063;s09060;").fewest(0, 4));
    TakesWhatItLacks x = Due.town("s44160;");
    due.is("20: two", 6, x.fewest(0, 1));
    due.is("20: two within 2, by TIDE 1", 6, x.fewest(0, 2));
    due.is("20: none within 60", 0, x.fewest(0, 60));
    due.is("20: none is HIDDEN", 0, x.hidden());
    due.is("20: of several the least", 2, Due.town("s40160;").fewest(0, 1));
    due.is("20: behind 5 comes 0", 33, Due.town("s44560;").fewest(0, 1));
    due.is("20: never", -9, Due.town("s49160;").fewest(0, 60));
    due.is("20: it is IN", 0, Due.town("s10000;d01;").fewest(0, 1));
    due.is("20: a SMUGGLER by what is HIDDEN", 2, Due.town("u20;s59160;t190;").fewest(0, 1));
    // At TIDE 1 one GOOD not LACKED lets the BALLAST in, whose LOAD then shuts out the other.
    due.is("20: all six", 63, Due.town("d01;s20099;s02000;").fewest(1, 1));
    due.is("20: fewest(1, 0)", -1, x.fewest(1, 0));
    due.is("20: fewest(-1, 61)", -1, x.fewest(-1, 61));
    due.is("20: fewest(0, 0)", -4, x.fewest(0, 0));
    due.is("20: fewest(0, 61)", -6, x.fewest(0, 61));
    refused("20", x, 2, 0, 0, 1, 1);
  }

  private static void promise21ForWhat() {
    TakesWhatItLacks x = Due.town("u06;u16;s49099;s29160;s09299;s10000;");
    due.is("21: a MIXED one for both", 3, x.forWhat(0));
    due.is("21: a BALLAST by what the first BRINGS", 3, x.forWhat(1));
    due.is("21: one that does not come", 0, x.forWhat(2));
    due.is("21: a BRIDE for nothing", 0, x.forWhat(3));
    due.is("21: forWhat(4)", -1, x.forWhat(4));
    due.is("21: forWhat(-1)", -1, x.forWhat(-1));
    x.days(1);
    due.is("21: forWhat(3), IN", -3, x.forWhat(3));
    refused("21", x, 2, 0, 1, 0, 0);
    due.is("21: for its GOOD", 1, Due.town("u09;s09060;").forWhat(0));
    due.is("21: for its GOOD, of which nothing is THERE", 1, Due.town("d01;t000;s00000;").forWhat(0));
    due.is("21: it would be IN by either", 0, Due.town("t100;t200;s40100;").forWhat(0));
    due.is("21: a BALLAST, the fewer are LACKED", 0, Due.town("u09;s09060;s29160;").forWhat(1));
  }

  private static void promise22Want() {
    TakesWhatItLacks x = new TakesWhatItLacks();
    due.is("22: want(0)", 0, x.want(0));
    due.is("22: want(4)", 12, x.want(4));
    due.is("22: want(10)", 336, x.want(10));
    due.is("22: want(60)", 336 + 50 * 84, x.want(60));
    due.is("22: want(-1)", -4, x.want(-1));
    due.is("22: want(61)", -6, x.want(61));
    due.is("22: want(least)", -4, x.want(LEAST));
    due.is("22: want(greatest)", -6, x.want(GREATEST));
    refused("22", x, 0, 0, 0, 2, 2);
    TakesWhatItLacks y = Due.town("u09;s09060;");
    due.is("22: now", 43, y.want(0));
    due.is("22: with a LOAD", 43, y.want(1));
    due.is("22: and a DAY more", 44, y.want(2));
  }

  private static void promise23Bare() {
    TakesWhatItLacks x = new TakesWhatItLacks();
    due.is("23: which, of several the least", 0, x.bare(0));
    due.is("23: when", 10, x.bare(1));
    due.is("23: bare(-1)", -2, x.bare(-1));
    due.is("23: bare(2)", -2, x.bare(2));
    refused("23", x, 0, 2, 0, 0, 0);
    TakesWhatItLacks y = Due.town("u00;u35;");
    due.is("23: which is first", 3, y.bare(0));
    due.is("23: when first", 4, y.bare(1));
    TakesWhatItLacks z = Due.town("t300;");
    due.is("23: now", 3, z.bare(0));
    due.is("23: when, now", 0, z.bare(1));
    due.is("23: none", -9, Due.town(NOTHING_USED).bare(0));
    due.is("23: none, when", -9, Due.town(NOTHING_USED).bare(1));
    due.is("23: behind 60", 60, Due.town(NOTHING_USED + "u41;t460;").bare(1));
    due.is("23: behind 61", -9, Due.town(NOTHING_USED + "u41;t461;").bare(1));
    due.is("23: a LOAD keeps it", 1, Due.town("u05;s10000;s00099;u15;").bare(0));
  }

  private static void promise24Lasts() {
    due.is("24: 20 over 1", 20, Due.town("u01;").lasts(0));
    TakesWhatItLacks x = Due.town("u13;u20;t399;u31;t400;t500;u50;s00099;");
    due.is("24: 20 over 2", 10, x.lasts(0));
    due.is("24: 20 over 3, rounded up", 7, x.lasts(1));
    due.is("24: none is USED", 99, x.lasts(2));
    due.is("24: 99 over 1", 99, x.lasts(3));
    due.is("24: nothing THERE", 0, x.lasts(4));
    due.is("24: nothing THERE nor USED", 99, x.lasts(5));
    due.is("24: lasts(-1)", -1, x.lasts(-1));
    due.is("24: lasts(6)", -1, x.lasts(6));
    refused("24", x, 2, 0, 0, 0, 0);
  }

  private static void promise25Best() {
    due.is("25: none", -9, new TakesWhatItLacks().best(9));
    TakesWhatItLacks x = Due.town("u09;u19;s10099;s09010;s09160;");
    due.is("25: best(1)", 2, x.best(1));
    due.is("25: best(0), no DAY", -9, x.best(0));
    due.is("25: best(-1)", -4, x.best(-1));
    due.is("25: best(61)", -6, x.best(61));
    refused("25", x, 0, 0, 0, 1, 1);
    due.is("25: of several the least", 1, Due.town("u09;u19;s10099;s09010;s09110;").best(1));
    due.is("25: a BRIDE is no loss", -9, Due.town("u09;s10099;").best(60));
    due.is("25: one that is IN is none", -9, Due.town("u09;s09010;d01;").best(5));
    // Without 0, which BRINGS 1, 1 BRINGS 60: WANT were less.
    due.is("25: one without which WANT were less", -9, Due.town("u09;t027;s09001;s09060;").best(1));
    due.is("25: the other way round", 0, Due.town("u09;t027;s09060;s09001;").best(1));
  }

  private static void rowOf(TakesWhatItLacks x, int... numbers) {
    x.clear();
    for (int number : numbers) {
      x.row(number);
    }
  }

  private static void town(TakesWhatItLacks x, String row, int good, int many, int least, int greatest) {
    due.is("26: how many by " + row, many, x.whichTown(good, 0));
    due.is("26: the least by " + row, least, x.whichTown(good, 1));
    due.is("26: the greatest by " + row, greatest, x.whichTown(good, 2));
  }

  private static void promise26WhichTown() {
    TakesWhatItLacks x = Due.town("u09;s09060;");
    town(x, "nothing", 0, 100, 0, 99);
    rowOf(x, 0, 1);
    town(x, "0 1", 0, 28, 0, 27);
    town(x, "0 1 of another GOOD", 1, 100, 0, 99);
    rowOf(x, 0, 0);
    town(x, "0 0", 0, 72, 28, 99);
    rowOf(x, 0, 0, 1);
    town(x, "0 0 1", 0, 12, 28, 39);
    rowOf(x, 1);
    town(x, "1", 0, 0, -9, -9);
    rowOf(x, 0, 1, 0);
    town(x, "0 1 0", 0, 0, -9, -9);
    due.is("26: the ROW stays", 3, x.count(6));
    due.is("26: THERE stays", 20, x.good(0, 0));
    due.is("26: whichTown(6, 3)", -1, x.whichTown(6, 3));
    due.is("26: whichTown(-1, 0)", -1, x.whichTown(-1, 0));
    due.is("26: whichTown(0, 3)", -2, x.whichTown(0, 3));
    due.is("26: whichTown(0, -1)", -2, x.whichTown(0, -1));
    refused("26", x, 2, 2, 0, 0, 0);
  }

  private static void promise27WhatKind() {
    TakesWhatItLacks x = Due.town("s00000;");
    due.is("27: KINDS by nothing", 63, x.whatKind(0, 0));
    due.is("27: FIGURES by nothing", 1023, x.whatKind(0, 1));
    rowOf(x, 0, 1);
    due.is("27: KINDS by 0 1", 57, x.whatKind(0, 0));
    due.is("27: FIGURES by 0 1", 1023, x.whatKind(0, 1));
    rowOf(x, 6);
    due.is("27: KINDS by 6", 4, x.whatKind(0, 0));
    due.is("27: FIGURES by 6", 0, x.whatKind(0, 1));
    rowOf(x, 9, 10, 11, 12, 13, 12, 11, 10, 9, 10, 11, 12);
    due.is("27: KINDS by twelve", 2, x.whatKind(0, 0));
    due.is("27: the ROW stays", 12, x.count(6));
    due.is("27: whatKind(1, 2)", -1, x.whatKind(1, 2));
    due.is("27: whatKind(-1, 0)", -1, x.whatKind(-1, 0));
    due.is("27: whatKind(0, 2)", -2, x.whatKind(0, 2));
    due.is("27: whatKind(0, -1)", -2, x.whatKind(0, -1));
    refused("27", x, 2, 2, 0, 0, 0);
    TakesWhatItLacks y = Due.town("t038;u09;s00060;");
    rowOf(y, 8, 12);
    due.is("27: FIGURES that do not come IN", 960, y.whatKind(0, 1));
    rowOf(y, 8, 1);
    due.is("27: FIGURES that come IN", 63, y.whatKind(0, 1));
    due.is("27: KINDS that BRING all", 1, y.whatKind(0, 0));
    rowOf(y, 8, 2);
    due.is("27: KINDS that BRING half", 48, y.whatKind(0, 0));
    due.is("27: it is as it was", 0, y.shipOf(0, 0));
    y.days(1);
    rowOf(y, 1);
    due.is("27: one that is IN, FIGURES", 1023, y.whatKind(0, 1));
    due.is("27: one that is IN, KINDS", 57, y.whatKind(0, 0));
  }

  private static void promise28Two() {
    TakesWhatItLacks x = new TakesWhatItLacks();
    due.is("28: neither", 0, x.two(0, 1, 9));
    due.is("28: no DAY", 0, x.two(0, 1, 0));
    due.is("28: two(0, 0, 0)", -1, x.two(0, 0, 0));
    due.is("28: two(6, 0, -1)", -1, x.two(6, 0, -1));
    due.is("28: two(0, -1, 61)", -1, x.two(0, -1, 61));
    due.is("28: two(0, 1, -1)", -4, x.two(0, 1, -1));
    due.is("28: two(0, 1, 61)", -6, x.two(0, 1, 61));
    refused("28", x, 3, 0, 0, 1, 1);
    TakesWhatItLacks both = Due.town("u09;t037;s09060;u19;t137;s09160;");
    due.is("28: both", 11, both.two(0, 1, 1));
    due.is("28: none is HIDDEN", 0, both.hidden());
    TakesWhatItLacks one = Due.town("u09;t037;s09060;");
    due.is("28: the first", 10, one.two(0, 1, 1));
    due.is("28: the second", 1, one.two(1, 0, 1));
    due.is("28: what there is, if less", 10, Due.town("u09;t006;s09060;u12;t106;s41060;t000;").two(1, 2, 1));
    // Without hiding LACK is 35; with it the SHIP comes, and LACK is 45 less its LOAD, and 5 for hiding.
    due.is("28: hiding for 5 is no better", 0, Due.town("u09;t037;s09015;").two(0, 1, 1));
    due.is("28: hiding for 6 is", 10, Due.town("u09;t037;s09016;").two(0, 1, 1));
    due.is("28: nor for the second", 0, Due.town("u19;t137;s09115;").two(0, 1, 1));
    due.is("28: for the second, too", 1, Due.town("u19;t137;s09116;").two(0, 1, 1));
    due.is("28: 10 are too few", 0, Due.town("u09;t038;s09060;").two(0, 1, 1));
    due.is("28: 10 of the second are too few", 0, Due.town("u19;t138;s09160;").two(0, 1, 1));
    // Reckoned by hand: 20 and 0 of neither, 4 + 5 and 12 of the first, 0 and 5 of the second, 9 and 5 of both.
    due.is("28: no pair", -9, Due.town("t043;u07;t116;u16;s47052;s01138;").two(0, 1, 2));
  }

  private static void fraction(TakesWhatItLacks x, int ship, int n, int t, long above, long below) {
    String call = "29: storms(" + ship + ", " + n + ", " + t + ", ";
    due.is(call + "0)", above, x.storms(ship, n, t, 0));
    due.is(call + "1)", below, x.storms(ship, n, t, 1));
  }

  private static void promise29Storms() {
    TakesWhatItLacks x = Due.town("s10000;s01360;s09360;");
    fraction(x, 0, 0, 2, 0, 1);
    fraction(x, 0, 1, 2, 1, 2);
    fraction(x, 0, 2, 2, 3, 4);
    fraction(x, 0, 7, 20, 1279999999L, 1280000000L);
    fraction(x, 1, 4, 3, 0, 1);
    fraction(x, 1, 5, 3, 2, 3);
    fraction(x, 1, 6, 3, 8, 9);
    fraction(x, 1, 7, 3, 26, 27);
    fraction(x, 2, 7, 20, 0, 1);
    due.is("29: no DAY went by", 0, x.count(1));
    due.is("29: storms(3, -1, 1, 2)", 4000000000000000001L, x.storms(3, -1, 1, 2));
    due.is("29: storms(-1, 0, 2, 0)", 4000000000000000001L, x.storms(-1, 0, 2, 0));
    due.is("29: storms(0, -1, 21, 2)", LONG_BELOW, x.storms(0, -1, 21, 2));
    due.is("29: storms(0, 8, 1, 2)", LONG_BELOW, x.storms(0, 8, 1, 2));
    due.is("29: storms(0, 0, least, 0)", LONG_BELOW, x.storms(0, 0, LEAST, 0));
    due.is("29: storms(0, 8, 2, 2)", 4000000000000000006L, x.storms(0, 8, 2, 2));
    due.is("29: storms(0, 0, 21, 2)", 4000000000000000006L, x.storms(0, 0, 21, 2));
    due.is("29: storms(0, greatest, 2, 0)", 4000000000000000006L, x.storms(0, GREATEST, 2, 0));
    due.is("29: storms(0, 7, 20, 2)", 4000000000000000002L, x.storms(0, 7, 20, 2));
    due.is("29: storms(0, 7, 20, -1)", 4000000000000000002L, x.storms(0, 7, 20, -1));
    refused("29", x, 2, 2, 0, 3, 3);
    x.days(1);
    fraction(x, 0, 0, 2, 1, 1);
    fraction(x, 0, 7, 20, 1, 1);
    // 1 comes IN if a storm keeps 0 out: both on DAY 1 without a storm is not to be had.
    fraction(Due.town(SHUT_OUT), 1, 2, 4, 0, 1);
    fraction(Due.town("u09;t027;s09060;s10000;"), 0, 1, 5, 4, 5);
  }

  private static long lackBehindTenDays(int n, int z) {
    long sum = 0;
    long seed = z & 0xffffffffL;
    for (int i = 0; i < 6 * n; i++) {
      seed = (seed * 1103515245L + 12345L) & 0xffffffffL;
      long there = (seed % 2147483648L) / 65536L % 40L;
      sum += 14L - Math.min(14L, Math.max(0L, there - 20L));
    }
    return sum;
  }

  private static void promise42Lots() {
    TakesWhatItLacks x = new TakesWhatItLacks();
    due.is("42: lots(2, 5, 0)", 0, x.lots(2, 5, 0));
    due.is("42: lots(2, 5, 1)", 116, x.lots(2, 5, 1));
    int[] seeds = {0, 1, -1, 77, LEAST, GREATEST, 123456789};
    for (int z : seeds) {
      for (int n = 1; n <= 20; n++) {
        due.is("42: lots(" + n + ", " + z + ", 1)", lackBehindTenDays(n, z), x.lots(n, z, 1));
      }
    }
    due.is("42: now", 20, x.good(0, 0));
    due.is("42: lots(0, 0, 2)", -4, x.lots(0, 0, 2));
    due.is("42: lots(least, 0, 0)", -4, x.lots(LEAST, 0, 0));
    due.is("42: lots(21, 0, -1)", -6, x.lots(21, 0, -1));
    due.is("42: lots(1, 0, -1)", -2, x.lots(1, 0, -1));
    due.is("42: lots(1, 0, 2)", -2, x.lots(1, 0, 2));
    refused("42", x, 0, 2, 0, 2, 1);
    TakesWhatItLacks y = Due.town("s10000;s00000;s09000;");
    due.is("42: who is IN of 20 ports", 40, y.lots(20, 9, 0));
    due.is("42: none is IN now", 0, y.count(3));
  }

  public static void main(String[] args) {
    promise13ThereIn();
    promise14Then();
    promise15Comes();
    promise16Shut();
    promise17ByWhom();
    promise18Loaded();
    promise19Hide();
    promise20Fewest();
    promise21ForWhat();
    promise22Want();
    promise23Bare();
    promise24Lasts();
    promise25Best();
    promise26WhichTown();
    promise27WhatKind();
    promise28Two();
    promise29Storms();
    promise42Lots();
    due.end("MindTest");
  }
}
