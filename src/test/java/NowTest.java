/** Promises 30 to 38: what there is now, and two looks ahead. */
final class NowTest {
  private static final int LEAST = Integer.MIN_VALUE;
  private static final int GREATEST = Integer.MAX_VALUE;
  private static final Due due = new Due();

  private static void promise30Deepest() {
    TakesWhatItLacks x = new TakesWhatItLacks();
    due.is("30: DEEPEST of none", -9, x.deepest(0));
    due.is("30: SHORTEST of none", 0, x.deepest(1));
    due.is("30: how much of none", 0, x.deepest(2));
    due.is("30: PLENTY", 63, x.deepest(3));
    due.is("30: TWINS of none", 0, x.deepest(4));
    due.is("30: deepest(-1)", -2, x.deepest(-1));
    due.is("30: deepest(5)", -2, x.deepest(5));
    due.is("30: deepest(least)", -2, x.deepest(LEAST));
    due.is("30: deepest(greatest)", -2, x.deepest(GREATEST));
    due.is("30: refused -2", 4, x.count(12));
    TakesWhatItLacks y = Due.town("s10300;s05300;s44300;s30200;s59200;u29;u49;t014;t115;t206;t406;");
    due.is("30: DEEPEST, of several the least", 1, y.deepest(0));
    due.is("30: SHORTEST, of several the least", 2, y.deepest(1));
    due.is("30: how much", 57, y.deepest(2));
    due.is("30: PLENTY, 14 is not", 42, y.deepest(3));
    due.is("30: TWINS", 4, y.deepest(4));
    due.is("30: those that are IN, too", 0, Due.town("s10000;d01;").deepest(0));
    due.is("30: SHORTEST is 1", 1, Due.town("u19;u28;").deepest(1));
    due.is("30: SHORTEST is 5", 5, Due.town("u28;u59;").deepest(1));
    due.is("30: seven of one GOOD", 21,
        Due.town("s00000;s00000;s00000;s00000;s00000;s00000;s00000;").deepest(4));
    due.is("30: PLENTY of what nobody uses", 61, Due.town("u00;t001;t100;u10;").deepest(3));
  }

  private static void mean(String text, long above, long below) {
    TakesWhatItLacks x = text.isEmpty() ? new TakesWhatItLacks() : Due.town(text);
    due.is("31: mean(0) of " + text, above, x.mean(0));
    due.is("31: mean(1) of " + text, below, x.mean(1));
  }

  private static void promise31Mean() {
    mean("", 0, 1);
    mean("s00000;s00000;s00000;", 0, 1);
    mean("s00010;s00020;s10025;d01;", 55, 3);
    mean("s00010;s00020;s00024;", 18, 1);
    mean("s00025;", 25, 1);
    mean("s00001;s00000;s00000;s00001;", 1, 2);
    TakesWhatItLacks x = new TakesWhatItLacks();
    due.is("31: mean(-1)", 4000000000000000002L, x.mean(-1));
    due.is("31: mean(2)", 4000000000000000002L, x.mean(2));
    due.is("31: refused -2", 2, x.count(12));
  }

  private static void promise32Hidden() {
    TakesWhatItLacks x = new TakesWhatItLacks();
    due.is("32: none", 0, x.hidden());
    x.hides(0, 3);
    x.hides(5, 20);
    due.is("32: hidden()", 23, x.hidden());
    due.is("32: all", 594, Due.town(
        "t099;h099;t199;h199;t299;h299;t399;h399;t499;h499;t599;h599;").hidden());
  }

  private static void promise33NextTide() {
    TakesWhatItLacks x = new TakesWhatItLacks();
    for (int v = 0; v <= 4; v++) {
      due.is("33: nextTide(" + v + ")", v, x.nextTide(v));
    }
    x.days(5);
    due.is("33: nextTide(4) on DAY 5", 7, x.nextTide(4));
    due.is("33: nextTide(3) on DAY 5, or more", 0, x.nextTide(3));
    x.days(1);
    due.is("33: nextTide(3) on DAY 6", 5, x.nextTide(3));
    due.is("33: nextTide(-1)", -4, x.nextTide(-1));
    due.is("33: nextTide(5)", -6, x.nextTide(5));
    due.is("33: refused -4", 1, x.count(14));
    due.is("33: refused -6", 1, x.count(16));
  }

  private static void promise34Empty() {
    due.is("34: none", 0, new TakesWhatItLacks().empty());
    TakesWhatItLacks x = Due.town("c08;s00000;s10000;s20000;s30000;s40000;s50000;");
    due.is("34: all but a BRIDE and a BALLAST", 57, x.empty());
    due.is("34: a LACK of 3 of the one behind", 9, Due.town("t111;c08;s00000;s10000;s40000;s30000;").empty());
    due.is("34: HIDDEN ones for a SMUGGLER", 0, Due.town("u00;h010;s50000;").empty());
    due.is("34: LACK of all GOODS and a BALLAST", 1,
        Due.town("t000;t100;t200;t300;t400;t500;s20000;").empty());
    TakesWhatItLacks y = Due.town("u00;c09;s30000;");
    due.is("34: 9 COUGHS", 0, y.empty());
    TakesWhatItLacks z = Due.town("u00;c18;s30000;d01;c08;");
    due.is("34: one that is IN, too", 1, z.empty());
    due.is("34: it is IN", 1, z.count(3));
  }

  private static void promise35Carried() {
    TakesWhatItLacks x = Due.town("s09599;s19598;s29597;s39596;s49531;s59005;");
    due.is("35: carried(5)", 99 + 97 + 96 + 15, x.carried(5));
    due.is("35: carried(0)", 16 + 2, x.carried(0));
    due.is("35: carried(1)", 3, x.carried(1));
    due.is("35: carried(2)", 0, x.carried(2));
    due.is("35: carried(6)", -1, x.carried(6));
    due.is("35: carried(-1)", -1, x.carried(-1));
    due.is("35: refused -1", 2, x.count(11));
    TakesWhatItLacks y = Due.town("s20150;s09107;d01;");
    due.is("35: only those OUT", 7, y.carried(1));
  }

  private static void promise36Filled() {
    due.is("36: no LACK", 0, new TakesWhatItLacks().filled());
    due.is("36: never", -9, Due.town("u09;").filled());
    due.is("36: the third fills it", 3, Due.town("u09;s10099;s09020;s09023;s09099;").filled());
    due.is("36: one too little", -9, Due.town("u09;s10099;s09020;s09022;").filled());
    due.is("36: the second, for a LACK of 1", 2, Due.town("u09;s09042;s09001;").filled());
    due.is("36: two GOODS", 1, Due.town("u06;u16;s49044;").filled());
    due.is("36: two GOODS, one too little", -9, Due.town("u06;u16;s49043;").filled());
    TakesWhatItLacks x = Due.town("s10099;d01;u09;s09099;");
    due.is("36: one that is IN BRINGS and counts no more", 1, x.filled());
    due.is("36: only in mind", 2, x.count(0));
    due.is("36: who is IN", 1, x.count(3));
    due.is("36: LACK still", 45, x.count(4));
  }

  private static void promise37Spared() {
    TakesWhatItLacks x = Due.town("h020;u09;");
    due.is("37: spared(0, 0)", 20, x.spared(0, 0));
    due.is("37: spared(0, 1), 63 twice less 43 and 52", 31, x.spared(0, 1));
    due.is("37: spared(1, 60), none HIDDEN", 0, x.spared(1, 60));
    due.is("37: they stay HIDDEN", 20, x.hidden());
    due.is("37: THERE is 99 at most", 0, Due.town("t050;h050;t099;u09;").spared(0, 60));
    due.is("37: THERE is 99 at most, from 50", 13, Due.town("t099;h099;t050;u09;").spared(0, 0));
    // LACK 36 lets the SHIP in at once (36 and 0); LACK 35, with the one HIDDEN, shuts it out (35 and 44).
    TakesWhatItLacks y = Due.town("t028;h001;u09;s09060;");
    due.is("37: WANT were more, a SHIP shut out", 1 - 44, y.spared(0, 1));
    TakesWhatItLacks z = Due.town("u00;h010;t114;s53080;u30;s53180;");
    due.is("37: they are HIDDEN no more", 0, z.spared(0, 0));
    due.is("37: a SMUGGLER, too, not HIDDEN", smugglerByHand(), smuggler().spared(2, 2));
    due.is("37: spared(6, -1)", 1000000001, x.spared(6, -1));
    due.is("37: spared(-1, 61)", 1000000001, x.spared(-1, 61));
    due.is("37: spared(0, -1)", 1000000004, x.spared(0, -1));
    due.is("37: spared(0, least)", 1000000004, x.spared(0, LEAST));
    due.is("37: spared(0, 61)", 1000000006, x.spared(0, 61));
    due.is("37: spared(0, greatest)", 1000000006, x.spared(0, GREATEST));
    due.is("37: refused -1", 2, x.count(11));
    due.is("37: refused -4", 2, x.count(14));
    due.is("37: refused -6", 2, x.count(16));
  }

  /** A SMUGGLER of GOOD 2, of which 20 are HIDDEN: it draws 2 and is IN on DAY 0 by them alone. */
  private static TakesWhatItLacks smuggler() {
    return Due.town("t240;h220;u22;u33;s50240;");
  }

  /**
   * With 20 HIDDEN it BRINGS 20 of 3 at once: LACK of 3 is 1, 0, 0. Without them LACK of 3 is 1, then 4; on DAY 1 TIDE 1
   * and a third of 4 let it in, so 0 then. The other GOODS have no LACK within 2 DAYS.
   */
  private static int smugglerByHand() {
    return 1 - (1 + 4);
  }

  private static void promise38Race() {
    TakesWhatItLacks x = Due.town("s09000;s00360;s10000;s10000;");
    due.is("38: race(1, 2)", 2, x.race(1, 2));
    due.is("38: race(2, 1)", 2, x.race(2, 1));
    due.is("38: on one DAY", 2, x.race(3, 2));
    due.is("38: one never", 1, x.race(0, 1));
    due.is("38: the other never", 1, x.race(1, 0));
    due.is("38: race(0, 0)", -1, x.race(0, 0));
    due.is("38: race(0, 4)", -1, x.race(0, 4));
    due.is("38: race(-1, 0)", -1, x.race(-1, 0));
    due.is("38: race(least, greatest)", -1, x.race(LEAST, GREATEST));
    due.is("38: refused -1", 4, x.count(11));
    due.is("38: neither", -9, Due.town("s09060;s09160;").race(0, 1));
    due.is("38: behind 60", 0, Due.town("u01;t060;s02000;s09160;").race(1, 0));
    due.is("38: behind 61", -9, Due.town("u01;t061;s02000;s09160;").race(1, 0));
    x.days(1);
    due.is("38: one that is IN", 3, x.race(1, 3));
    due.is("38: both are IN", 2, x.race(3, 2));
    TakesWhatItLacks y = Due.town("u09;s09060;s09060;");
    due.is("38: one shut out", 0, y.race(1, 0));
  }

  public static void main(String[] args) {
    promise30Deepest();
    promise31Mean();
    promise32Hidden();
    promise33NextTide();
    promise34Empty();
    promise35Carried();
    promise36Filled();
    promise37Spared();
    promise38Race();
    due.end("NowTest");
  }
}
