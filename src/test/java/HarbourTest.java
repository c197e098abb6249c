/** Promises 1 to 12: the harbour and what changes it. */
final class HarbourTest {
  private static final int LEAST = Integer.MIN_VALUE;
  private static final int GREATEST = Integer.MAX_VALUE;
  private static final Due due = new Due();

  private static void promise1NewObject() {
    TakesWhatItLacks x = new TakesWhatItLacks();
    for (int good = 0; good < 6; good++) {
      due.is("1: THERE of " + good, 20, x.good(good, 0));
      due.is("1: USED of " + good, 2, x.good(good, 1));
      due.is("1: HIDDEN of " + good, 0, x.good(good, 2));
      due.is("1: LACK of " + good, 0, x.good(good, 3));
    }
    for (int what = 0; what <= 7; what++) {
      due.is("1: count(" + what + ")", 0, x.count(what));
    }
    for (int what = 11; what <= 16; what++) {
      due.is("1: count(" + what + ")", 0, x.count(what));
    }
    due.is("1: shipOf(0, 0)", -1, x.shipOf(0, 0));
    due.is("1: back()", -3, x.back());
    due.is("1: restore()", -3, x.restore());
  }

  private static void promise2Feed() {
    TakesWhatItLacks x = new TakesWhatItLacks();
    due.is("2: feed(-1)", -4, x.feed(-1));
    due.is("2: feed(least)", -4, x.feed(LEAST));
    due.is("2: feed(256)", -6, x.feed(256));
    due.is("2: feed(greatest)", -6, x.feed(GREATEST));
    due.is("2: no letter yet", 0, x.count(5));
    due.is("2: feed(0)", 1, x.feed(0));
    due.is("2: feed(255)", 2, x.feed(255));
    for (int i = 3; i <= 96; i++) {
      due.is("2: feed the " + i + "th", i, x.feed('s'));
    }
    due.is("2: feed the 97th", -6, x.feed('s'));
    due.is("2: feed(-1) on 96", -4, x.feed(-1));
    due.is("2: 96 letters", 96, x.count(5));
    due.is("2: refused -4", 3, x.count(14));
    due.is("2: refused -6", 3, x.count(16));
    due.is("2: harbour of it", -1000, x.harbour());
    due.is("2: feed behind that", 1, x.feed('s'));
  }

  private static void fault(String text, int want) {
    TakesWhatItLacks x = new TakesWhatItLacks();
    due.is("3: " + text, want, Due.tell(x, text));
    due.is("3: " + text + ": letters", 0, x.count(5));
    for (int what = 11; what <= 16; what++) {
      due.is("3: " + text + ": count(" + what + ")", 0, x.count(what));
    }
  }

  private static void promise3Faults() {
    fault("", -1000);
    fault("x", -1000);
    fault(";", -1000);
    fault("0", -1000);
    fault("s", -1001);
    fault("s;", -1001);
    fault("s0a", -1002);
    fault("s00000", -1006);
    fault("s000000", -1006);
    fault("s0000;", -1005);
    fault("t0", -1002);
    fault("t00;", -1003);
    fault("t0000", -1004);
    fault("u0;", -1002);
    fault("u000;", -1003);
    fault("h00;", -1003);
    fault("o;", -1001);
    fault("o00;", -1002);
    fault("c0;", -1002);
    fault("c000", -1003);
    fault("d1;", -1002);
    fault("t000;;", -1005);
    fault("t000;x", -1005);
    fault("t000;t", -1006);
    fault("t000; t000;", -1005);
    fault("d00;x", -1004);
    fault("T000;", -1000);
    fault("t0/0;", -1002);
    fault("t0:0;", -1002);
    fault("s60000;", -2000);
    fault("s00600;", -2000);
    fault("t600;", -2000);
    fault("u60;", -2000);
    fault("h600;", -2000);
    fault("h021;", -2000);
    fault("o0;", -2000);
    fault("d00;", -2000);
    fault("d61;", -2000);
    fault("t000;d61;u60;", -2005);
    fault("t099;h099;t001;h001;", -2015);
    fault("s10000;o0;", -2007);
    fault("s10000;d01;o1;", -2011);
    fault("d60;d60;d60;d60;d60;d60;d60;d60;d60;d60;d60;d60;d60;d60;d60;d60;d40;", -2064);
    fault("d60;d60;d60;d60;d60;d60;d60;d60;d60;d60;d60;d60;d60;d60;d60;d60;d39;d01;", -2068);
    fault("s00000;s00000;s00000;s00000;s00000;s00000;s00000;s00000;", -2049);
  }

  private static void promise3Harbour() {
    TakesWhatItLacks x = new TakesWhatItLacks();
    due.is("3: all kinds of it", 7, Due.tell(x, "s17342;t355;u38;h305;c44;d01;o0;"));
    due.is("3: SHIPS", 1, x.count(0));
    due.is("3: KIND", 1, x.shipOf(0, 0));
    due.is("3: FIGURE", 7, x.shipOf(0, 1));
    due.is("3: GOOD", 3, x.shipOf(0, 2));
    due.is("3: LOAD", 42, x.shipOf(0, 3));
    due.is("3: OUT again", 0, x.shipOf(0, 4));
    due.is("3: THERE", 42, x.good(3, 0));
    due.is("3: USED", 8, x.good(3, 1));
    due.is("3: HIDDEN", 5, x.good(3, 2));
    due.is("3: COUGHS", 44, x.count(2));
    due.is("3: DAY", 1, x.count(1));
    due.is("3: no letters", 0, x.count(5));
    due.is("3: and again, nothing", -1000, x.harbour());
    due.is("3: what there is stays", 1, Due.tell(x, "s20199;"));
    due.is("3: SHIPS then", 2, x.count(0));
    x.hides(0, 3);
    due.is("3: a FAULT, and nothing comes", -2005, Due.tell(x, "t177;t600;"));
    due.is("3: THERE of 1", 18, x.good(1, 0));
    due.is("3: a FAULT leaves what can be TAKEN BACK", 1, x.count(7));
    due.is("3: a FAULT of kind 1, too", -1005, Due.tell(x, "t177;x"));
    due.is("3: and that as well", 1, x.count(7));
    due.is("3: without FAULT none is left", 1, Due.tell(x, "t177;"));
    due.is("3: nothing to take BACK", 0, x.count(7));
    due.is("3: THERE of 1 then", 77, x.good(1, 0));
    due.is("3: the last place", 17, Due.tell(new TakesWhatItLacks(),
        "d60;d60;d60;d60;d60;d60;d60;d60;d60;d60;d60;d60;d60;d60;d60;d60;d39;"));
    due.is("3: 96 letters", 24, Due.tell(new TakesWhatItLacks(),
        "c01;c02;c03;c04;c05;c06;c07;c08;c09;c10;c11;c12;c13;c14;c15;c16;c17;c18;c19;c20;c21;c22;c23;c24;"));
    due.is("3: HIDDEN 99", 2, Due.tell(new TakesWhatItLacks(), "t099;h099;"));
    due.is("3: 7 SHIPS", 7, Due.tell(new TakesWhatItLacks(), "s00000;s10000;s20000;s30000;s40000;s50000;s59599;"));
  }

  private static void promise4Good() {
    TakesWhatItLacks x = Due.town("u09;t231;h210;u25;");
    due.is("4: LACK of 0", 43, x.good(0, 3));
    due.is("4: USED of 0", 9, x.good(0, 1));
    due.is("4: THERE of 2", 21, x.good(2, 0));
    due.is("4: HIDDEN of 2", 10, x.good(2, 2));
    due.is("4: LACK of 2, HIDDEN does not count", 14, x.good(2, 3));
    due.is("4: LACK of 5", 0, x.good(5, 3));
    int[] goods = {-1, 6, LEAST, GREATEST};
    for (int good : goods) {
      due.is("4: good(" + good + ", 0)", -1, x.good(good, 0));
      due.is("4: good(" + good + ", 9)", -1, x.good(good, 9));
    }
    int[] whats = {-1, 4, LEAST, GREATEST};
    for (int what : whats) {
      due.is("4: good(0, " + what + ")", -2, x.good(0, what));
    }
    due.is("4: refused -1", 8, x.count(11));
    due.is("4: refused -2", 4, x.count(12));
  }

  private static void depths(TakesWhatItLacks x, int ship, int draws, int sinks, int depth) {
    due.is("5: DRAWS of " + ship, draws, x.shipOf(ship, 5));
    due.is("5: SINKS of " + ship, sinks, x.shipOf(ship, 6));
    due.is("5: DEPTH of " + ship, depth, x.shipOf(ship, 7));
  }

  private static void promise5ShipOf() {
    TakesWhatItLacks x = Due.town("t029;h019;t020;u09;u14;c26;s09001;s19001;s29001;s39001;s49001;s59001;");
    depths(x, 0, 12, 14, 14);
    depths(x, 1, 1, 9, 9);
    depths(x, 2, 6, 4, 4);
    depths(x, 3, 2, 2, 2);
    depths(x, 4, 13, 16, 16);
    depths(x, 5, 6, 17, 17);
    due.is("5: KIND", 5, x.shipOf(5, 0));
    due.is("5: FIGURE", 9, x.shipOf(5, 1));
    due.is("5: GOOD", 0, x.shipOf(5, 2));
    due.is("5: LOAD", 1, x.shipOf(5, 3));
    due.is("5: OUT", 0, x.shipOf(5, 4));
    due.is("5: c27", 1, Due.tell(x, "c27;"));
    depths(x, 3, 2, 3, 3);
  }

  private static void promise5SmallAndBehind() {
    TakesWhatItLacks x = Due.town("u09;s00100;s10000;s20000;s30000;s40500;s50500;s23000;");
    depths(x, 0, 3, 0, 0);
    depths(x, 2, 2, 5, 5);
    depths(x, 3, 2, 0, 0);
    depths(x, 4, 4, 14, 14);
    depths(x, 5, 2, 14, 14);
    depths(x, 6, 3, 5, 5);
    due.is("5: a day", 5, x.days(1));
    due.is("5: IN", 1, x.shipOf(1, 4));
    due.is("5: TIDE and a BRIDE that is IN", 10, x.shipOf(1, 7));
    due.is("5: OUT still", 0, x.shipOf(0, 4));
    due.is("5: TIDE and a SHIP", 1, x.shipOf(0, 7));
    int[] ships = {-1, 7, LEAST, GREATEST};
    for (int ship : ships) {
      due.is("5: shipOf(" + ship + ", 0)", -1, x.shipOf(ship, 0));
      due.is("5: shipOf(" + ship + ", 8)", -1, x.shipOf(ship, 8));
    }
    int[] whats = {-1, 8, LEAST, GREATEST};
    for (int what : whats) {
      due.is("5: shipOf(0, " + what + ")", -2, x.shipOf(0, what));
    }
    due.is("5: the next one that is not", -1, Due.town("s00000;").shipOf(1, 0));
    due.is("5: refused -1", 8, x.count(11));
    due.is("5: refused -2", 4, x.count(12));
  }

  private static void promise6Tide() {
    TakesWhatItLacks x = new TakesWhatItLacks();
    int[] tides = {0, 1, 2, 3, 4, 3, 2, 1, 0, 1};
    for (int n = 0; n < tides.length; n++) {
      due.is("6: tide(" + n + ")", tides[n], x.tide(n));
    }
    due.is("6: tide(60)", 4, x.tide(60));
    due.is("6: tide(61)", -6, x.tide(61));
    due.is("6: tide(greatest)", -6, x.tide(GREATEST));
    due.is("6: tide(-1)", -4, x.tide(-1));
    due.is("6: tide(least)", -4, x.tide(LEAST));
    x.days(3);
    due.is("6: tide(0) on DAY 3", 3, x.tide(0));
    due.is("6: tide(2) on DAY 3", 3, x.tide(2));
    due.is("6: refused -4", 2, x.count(14));
    due.is("6: refused -6", 2, x.count(16));
  }

  private static void promise7Ship() {
    TakesWhatItLacks x = new TakesWhatItLacks();
    due.is("7: KIND -1", -2, x.ship(-1, -1, -1, -1));
    due.is("7: KIND 6", -2, x.ship(6, 10, 6, 100));
    due.is("7: KIND least", -2, x.ship(LEAST, 0, 0, 0));
    due.is("7: KIND greatest", -2, x.ship(GREATEST, 0, 0, 0));
    due.is("7: FIGURE -1", -4, x.ship(0, -1, -1, 100));
    due.is("7: LOAD -1", -4, x.ship(0, 10, -1, -1));
    due.is("7: FIGURE 10", -6, x.ship(0, 10, -1, 0));
    due.is("7: LOAD 100", -6, x.ship(0, 0, 6, 100));
    due.is("7: GOOD -1", -1, x.ship(0, 0, -1, 0));
    due.is("7: GOOD 6", -1, x.ship(0, 0, 6, 0));
    due.is("7: none of them", 0, x.count(0));
    x.uses(0, 2);
    due.is("7: refused", -2, x.ship(6, 0, 0, 0));
    due.is("7: refused, all can be TAKEN BACK", 1, x.count(7));
    for (int i = 0; i < 7; i++) {
      due.is("7: SHIP " + i, i, x.ship(5 - i % 6, 9, 5, 99 - i));
      due.is("7: nothing to take BACK", 0, x.count(7));
      due.is("7: KIND", 5 - i % 6, x.shipOf(i, 0));
      due.is("7: FIGURE", 9, x.shipOf(i, 1));
      due.is("7: GOOD", 5, x.shipOf(i, 2));
      due.is("7: LOAD", 99 - i, x.shipOf(i, 3));
      due.is("7: OUT", 0, x.shipOf(i, 4));
    }
    due.is("7: an 8th", -6, x.ship(0, 0, 6, 0));
    due.is("7: an 8th of no KIND", -2, x.ship(6, 0, 6, 0));
    due.is("7: an 8th of FIGURE -1", -4, x.ship(0, -1, 6, 0));
    due.is("7: SHIPS", 7, x.count(0));
    due.is("7: refused -1", 2, x.count(11));
    due.is("7: refused -2", 6, x.count(12));
    due.is("7: refused -4", 3, x.count(14));
    due.is("7: refused -6", 3, x.count(16));
  }

  private static void promise8Hides() {
    TakesWhatItLacks x = new TakesWhatItLacks();
    due.is("8: hides(0, 5)", 15, x.hides(0, 5));
    due.is("8: HIDDEN", 5, x.good(0, 2));
    due.is("8: hides(0, 16)", -3, x.hides(0, 16));
    due.is("8: hides(0, -6)", -3, x.hides(0, -6));
    due.is("8: hides(0, least)", -3, x.hides(0, LEAST));
    due.is("8: hides(0, greatest)", -3, x.hides(0, GREATEST));
    due.is("8: HIDDEN still", 5, x.good(0, 2));
    due.is("8: hides(0, -5)", 20, x.hides(0, -5));
    due.is("8: none HIDDEN", 0, x.good(0, 2));
    due.is("8: hides(0, 20)", 0, x.hides(0, 20));
    due.is("8: hides(0, 0)", 0, x.hides(0, 0));
    due.is("8: all four can be TAKEN BACK", 4, x.count(7));
    due.is("8: hides(-1, 0)", -1, x.hides(-1, 0));
    due.is("8: hides(6, 100)", -1, x.hides(6, 100));
    due.is("8: refused -1", 2, x.count(11));
    due.is("8: refused -3", 4, x.count(13));
    TakesWhatItLacks y = Due.town("t099;h099;t005;");
    due.is("8: above 99 HIDDEN", -3, y.hides(0, 1));
    due.is("8: 94 THERE again", 99, y.hides(0, -94));
    due.is("8: above 99 THERE", -3, y.hides(0, -1));
    due.is("8: 5 HIDDEN", 5, y.good(0, 2));
    due.is("8: to 99 HIDDEN", 5, y.hides(0, 94));
  }

  private static void promise9Uses() {
    TakesWhatItLacks x = new TakesWhatItLacks();
    due.is("9: uses(3, 9)", 2, x.uses(3, 9));
    due.is("9: uses(3, 0)", 9, x.uses(3, 0));
    due.is("9: USED", 0, x.good(3, 1));
    due.is("9: uses(3, 10)", -6, x.uses(3, 10));
    due.is("9: uses(3, -1)", -4, x.uses(3, -1));
    due.is("9: uses(6, -1)", -1, x.uses(6, -1));
    due.is("9: uses(-1, 10)", -1, x.uses(-1, 10));
    due.is("9: uses(3, least)", -4, x.uses(3, LEAST));
    due.is("9: uses(3, greatest)", -6, x.uses(3, GREATEST));
    due.is("9: USED still", 0, x.good(3, 1));
    due.is("9: uses(3, 0) again", 0, x.uses(3, 0));
    due.is("9: three can be TAKEN BACK", 3, x.count(7));
    due.is("9: refused -1", 2, x.count(11));
    due.is("9: refused -4", 2, x.count(14));
    due.is("9: refused -6", 2, x.count(16));
  }

  private static void promise10Sends() {
    TakesWhatItLacks x = Due.town("s10000;s09077;d01;");
    due.is("10: sends(2, 0)", -1, x.sends(2, 0));
    due.is("10: sends(-1, -1)", -1, x.sends(-1, -1));
    due.is("10: sends(0, -1)", -4, x.sends(0, -1));
    due.is("10: sends(1, -1), OUT", -4, x.sends(1, -1));
    due.is("10: sends(0, 100)", -6, x.sends(0, 100));
    due.is("10: sends(1, 100), OUT", -6, x.sends(1, 100));
    due.is("10: sends(1, 5), OUT", -3, x.sends(1, 5));
    due.is("10: LOAD of 1", 77, x.shipOf(1, 3));
    due.is("10: IN", 1, x.count(3));
    due.is("10: sends(0, 99)", 0, x.sends(0, 99));
    due.is("10: LOAD of 0", 99, x.shipOf(0, 3));
    due.is("10: OUT", 0, x.count(3));
    due.is("10: sends(0, 1), OUT now", -3, x.sends(0, 1));
    x.days(1);
    due.is("10: IN again", 1, x.count(3));
    due.is("10: sends(0, 0)", 99, x.sends(0, 0));
    due.is("10: refused -1", 2, x.count(11));
    due.is("10: refused -3", 2, x.count(13));
    due.is("10: refused -4", 2, x.count(14));
    due.is("10: refused -6", 2, x.count(16));
    due.is("10: back()", 2, x.back());
    due.is("10: LOAD of 0, BACK", 99, x.shipOf(0, 3));
    due.is("10: IN, BACK", 1, x.count(3));
  }

  private static void promise11Days() {
    TakesWhatItLacks x = Due.town("s00030;");
    due.is("11: days(3)", 0, x.days(3));
    due.is("11: THERE", 14, x.good(0, 0));
    due.is("11: days(1), at TIDE 3", 1, x.days(1));
    due.is("11: THERE with the LOAD", 42, x.good(0, 0));
    due.is("11: THERE of 1", 12, x.good(1, 0));
    due.is("11: COUGHS", 0, x.count(2));
    due.is("11: DAY", 4, x.count(1));
    due.is("11: the one that is IN comes no more", 1, x.days(4));
    due.is("11: THERE then", 34, x.good(0, 0));
    due.is("11: days(0)", -4, x.days(0));
    due.is("11: days(least)", -4, x.days(LEAST));
    due.is("11: days(61)", -6, x.days(61));
    due.is("11: days(greatest)", -6, x.days(GREATEST));
    due.is("11: DAY still", 8, x.count(1));
    due.is("11: refused -4", 2, x.count(14));
    due.is("11: refused -6", 2, x.count(16));
    for (int i = 0; i < 16; i++) {
      due.is("11: days(60)", 1, x.days(60));
    }
    due.is("11: days(32), above 999", -6, x.days(32));
    due.is("11: days(31)", 1, x.days(31));
    due.is("11: DAY 999", 999, x.count(1));
    due.is("11: days(1), above 999", -6, x.days(1));
    due.is("11: THERE 0 at least", 0, x.good(0, 0));
    due.is("11: COUGHS 99 at most", 99, x.count(2));
  }

  private static void promise11Coughs() {
    TakesWhatItLacks x = new TakesWhatItLacks();
    x.days(3);
    due.is("11: no LACK, no COUGH", 0, x.count(2));
    x.days(1);
    due.is("11: LACK, a COUGH", 1, x.count(2));
    due.is("11: LACK of 1, a COUGH", 1, Due.town("u01;t007;d01;").count(2));
    TakesWhatItLacks y = Due.town("u00;u19;d05;");
    due.is("11: LACK of another GOOD", 0, y.count(2));
    TakesWhatItLacks z = Due.town("u00;c18;s30312;");
    due.is("11: a DOCTOR", 1, z.days(1));
    due.is("11: he took 9 COUGHS", 9, z.count(2));
    due.is("11: and BROUGHT his LOAD", 30, z.good(3, 0));
    TakesWhatItLacks few = Due.town("u00;c05;s30312;d02;");
    due.is("11: no DOCTOR at TIDE 0, 1", 0, few.count(3));
    due.is("11: at TIDE 2", 1, few.days(1));
    due.is("11: COUGHS 0 at least", 0, few.count(2));
    TakesWhatItLacks two = Due.town("u00;c18;s30312;s30312;");
    due.is("11: the first DOCTOR shuts out the second", 1, two.days(1));
  }

  private static void brought(String ship, int own, int behind) {
    TakesWhatItLacks x = Due.town("u00;u10;u20;u30;u40;u50;t000;t500;t250;s10000;s10000;" + ship);
    x.days(5);
    due.is("11: " + ship + " is IN", 7, x.count(3));
    due.is("11: " + ship + " BRINGS of 5", own, x.good(5, 0));
    due.is("11: " + ship + " BRINGS of 0", behind, x.good(0, 0));
    due.is("11: " + ship + " BRINGS of 2", 50, x.good(2, 0));
  }

  private static void promise11Brings() {
    brought("s00531;", 31, 0);
    brought("s10531;", 0, 0);
    brought("s20531;", 31, 0);
    brought("s30531;", 31, 0);
    brought("s40531;", 15, 16);
    brought("s50531;", 15, 16);
    TakesWhatItLacks x = Due.town("u00;t060;s20099;");
    x.days(1);
    due.is("11: THERE is 99 at most", 99, x.good(0, 0));
    TakesWhatItLacks y = Due.town("t190;s20199;");
    y.days(1);
    due.is("11: 99, and then it is USED", 97, y.good(1, 0));
    TakesWhatItLacks z = Due.town("u09;s09060;s09060;");
    due.is("11: the first shuts out the second", 1, z.days(1));
    due.is("11: who is IN", 1, z.count(3));
    due.is("11: THERE", 71, z.good(0, 0));
    due.is("11: the second on DAY 5, with TIDE 3", 2, z.days(5));
  }

  private static void promise12Back() {
    TakesWhatItLacks x = Due.town("s10000;s00330;");
    due.is("12: back() of none", -3, x.back());
    due.is("12: refused -3", 1, x.count(13));
    x.hides(0, 7);
    x.uses(1, 9);
    x.days(4);
    x.sends(0, 12);
    due.is("12: what can be TAKEN BACK", 4, x.count(7));
    due.is("12: back(), sends", 3, x.back());
    due.is("12: IN", 3, x.count(3));
    due.is("12: LOAD", 0, x.shipOf(0, 3));
    due.is("12: COUGHS", 4, x.count(2));
    due.is("12: back(), days", 2, x.back());
    due.is("12: OUT", 0, x.count(3));
    due.is("12: DAY", 0, x.count(1));
    due.is("12: no COUGHS", 0, x.count(2));
    due.is("12: THERE of 3", 20, x.good(3, 0));
    due.is("12: back(), uses", 1, x.back());
    due.is("12: USED", 2, x.good(1, 1));
    due.is("12: HIDDEN", 7, x.good(0, 2));
    due.is("12: back(), hides", 0, x.back());
    due.is("12: none HIDDEN", 0, x.good(0, 2));
    due.is("12: THERE of 0", 20, x.good(0, 0));
    due.is("12: back() of none left", -3, x.back());
  }

  private static void promise12EightAtMost() {
    TakesWhatItLacks x = new TakesWhatItLacks();
    for (int i = 0; i < 10; i++) {
      x.uses(0, i);
      due.is("12: can be TAKEN BACK", Math.min(8, i + 1), x.count(7));
    }
    due.is("12: a refused one is none", -6, x.uses(0, 10));
    for (int i = 7; i >= 0; i--) {
      due.is("12: back()", i, x.back());
      due.is("12: USED", i + 1, x.good(0, 1));
    }
    due.is("12: older ones no more", -3, x.back());
    due.is("12: USED stays", 1, x.good(0, 1));
    x.uses(0, 7);
    due.is("12: and on", 0, x.back());
    due.is("12: USED is as it was", 1, x.good(0, 1));
    x.image();
    x.uses(0, 3);
    due.is("12: image() leaves them", 1, x.count(7));
    x.restore();
    due.is("12: restore() leaves none", 0, x.count(7));
  }

  public static void main(String[] args) {
    promise1NewObject();
    promise2Feed();
    promise3Faults();
    promise3Harbour();
    promise4Good();
    promise5ShipOf();
    promise5SmallAndBehind();
    promise6Tide();
    promise7Ship();
    promise8Hides();
    promise9Uses();
    promise10Sends();
    promise11Days();
    promise11Coughs();
    promise11Brings();
    promise12Back();
    promise12EightAtMost();
    due.end("HarbourTest");
  }
}
