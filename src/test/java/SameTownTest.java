import java.util.ArrayList;
import java.util.List;

/**
 * What is one town gives the same answers: however it became so and whatever was asked ahead; a SHIP wherever it stands
 * among BRIDES, which BRING nothing; GOODS each one place on (5 goes to 0), but where the document names GOOD 0 or the least.
 */
final class SameTownTest {
  private static final int GOODS = 6;
  private static final int[] SOME_DAYS = {0, 1, 2, 3, 5, 8, 21, 60};
  private static final Due due = new Due();

  private interface Question {
    long of(TakesWhatItLacks x);
  }

  private record Named(String name, Question question) {
  }

  private static void add(List<Named> all, String name, Question question) {
    all.add(new Named(name, question));
  }

  // ---- the questions

  private static void ofShip(List<Named> all, int ship) {
    for (int what = 0; what <= 7; what++) {
      int its = what;
      add(all, "shipOf(.., " + what + ")", x -> x.shipOf(ship, its));
    }
    add(all, "comes", x -> x.comes(ship));
    add(all, "forWhat", x -> x.forWhat(ship));
    for (int part = 0; part <= 1; part++) {
      int its = part;
      add(all, "loaded(.., " + part + ")", x -> x.loaded(ship, its));
      add(all, "whatKind(.., " + part + ")", x -> x.whatKind(ship, its));
      for (int n = 0; n <= 7; n++) {
        int days = n;
        add(all, "storms(.., " + n + ", 3, " + part + ")", x -> x.storms(ship, days, 3, its));
      }
    }
    for (int n : SOME_DAYS) {
      add(all, "fewest(.., " + n + ")", x -> x.fewest(ship, n));
      for (int good = 0; good < GOODS; good++) {
        int its = good;
        add(all, "hide(" + good + ", .., " + n + ")", x -> x.hide(its, ship, n));
      }
    }
  }

  private static void ofGood(List<Named> all, int good) {
    for (int what = 0; what <= 3; what++) {
      int its = what;
      add(all, "good(.., " + what + ")", x -> x.good(good, its));
    }
    for (int what = 0; what <= 2; what++) {
      int its = what;
      add(all, "whichTown(.., " + what + ")", x -> x.whichTown(good, its));
    }
    add(all, "lasts", x -> x.lasts(good));
    add(all, "carried", x -> x.carried(good));
    for (int n : SOME_DAYS) {
      add(all, "thereIn(.., " + n + ")", x -> x.thereIn(good, n));
      add(all, "spared(.., " + n + ")", x -> x.spared(good, n));
    }
  }

  private static void ofTwoGoods(List<Named> all, int one, int other) {
    for (int n : SOME_DAYS) {
      add(all, "two(.., .., " + n + ")", x -> x.two(one, other, n));
    }
  }

  private static void ofAllGoods(List<Named> all) {
    for (int n : SOME_DAYS) {
      add(all, "then(" + n + ", 1)", x -> x.then(n, 1));
      add(all, "want(" + n + ")", x -> x.want(n));
      add(all, "best(" + n + ")", x -> x.best(n));
    }
    add(all, "comes(-1)", x -> x.comes(-1));
    add(all, "shut()", x -> x.shut());
    add(all, "bare(1)", x -> x.bare(1));
    add(all, "deepest(0)", x -> x.deepest(0));
    add(all, "deepest(2)", x -> x.deepest(2));
    add(all, "deepest(4)", x -> x.deepest(4));
    add(all, "mean(0)", x -> x.mean(0));
    add(all, "mean(1)", x -> x.mean(1));
    add(all, "hidden()", x -> x.hidden());
    add(all, "empty()", x -> x.empty());
    add(all, "filled()", x -> x.filled());
    add(all, "judge()", x -> x.judge());
    for (int what : new int[] {0, 1, 3, 4, 6}) {
      add(all, "count(" + what + ")", x -> x.count(what));
    }
  }

  private static void ofTheTown(List<Named> all) {
    ofAllGoods(all);
    for (int n : SOME_DAYS) {
      add(all, "tide(" + n + ")", x -> x.tide(n));
      add(all, "then(" + n + ", 0)", x -> x.then(n, 0));
    }
    for (int v = 0; v <= 4; v++) {
      int its = v;
      add(all, "nextTide(" + v + ")", x -> x.nextTide(its));
    }
    for (int what = 0; what <= 1; what++) {
      int its = what;
      add(all, "lots(3, 77, " + what + ")", x -> x.lots(3, 77, its));
    }
    add(all, "bare(0)", x -> x.bare(0));
    add(all, "deepest(1)", x -> x.deepest(1));
    add(all, "deepest(3)", x -> x.deepest(3));
    add(all, "count(2)", x -> x.count(2));
  }

  private static void row(TakesWhatItLacks x, int... numbers) {
    for (int number : numbers) {
      x.row(number);
    }
  }

  /** Of the town that is told by calls. */
  private static void ofRow(List<Named> all) {
    int[] depths = {12, 23, 9, 4, 15, 3, 23};
    for (int ship = 0; ship < depths.length; ship++) {
      int one = ship;
      for (int what = 0; what <= 1; what++) {
        int its = what;
        add(all, "whatKind(" + ship + ", " + what + ") of its DEPTH", x -> {
          row(x, depths[one]);
          return x.whatKind(one, its);
        });
      }
      add(all, "judge() of all DEPTHS but of SHIP " + ship, x -> {
        for (int i = 0; i < depths.length; i++) {
          x.row(depths[i] + (i == one ? 1 : 0));
        }
        return x.judge();
      });
    }
    add(all, "judge() of all DEPTHS", x -> {
      row(x, depths);
      return x.judge();
    });
    for (int good = 0; good < GOODS; good++) {
      int its = good;
      for (int next = 4; next <= 7; next++) {
        int then = next;
        add(all, "whichTown(" + good + ", 0) of 4 and " + next, x -> {
          row(x, 4, then);
          return x.whichTown(its, 0);
        });
      }
    }
  }

  private static List<Named> allQuestions(int ships) {
    List<Named> all = new ArrayList<>();
    ofTheTown(all);
    for (int ship = 0; ship < ships; ship++) {
      ofShip(all, ship);
      int one = ship;
      add(all, "byWhom(" + ship + ")", x -> x.byWhom(one));
      for (int other = 0; other < ships; other++) {
        int two = other;
        add(all, "race(" + ship + ", " + other + ")", x -> x.race(one, two));
      }
    }
    for (int good = 0; good < GOODS; good++) {
      ofGood(all, good);
      for (int other = 0; other < GOODS; other++) {
        ofTwoGoods(all, good, other);
      }
    }
    return all;
  }

  // ---- however it became so

  /** Seven SHIPS of all KINDS by calls alone: 0, 2, 4 and 5 are IN, 1 is OUT again, 6 is SHUT by it. */
  private static TakesWhatItLacks byCalls(Question ahead, Question between, Question behind) {
    TakesWhatItLacks x = new TakesWhatItLacks();
    ahead.of(x);
    x.ship(1, 3, 4, 12);
    x.ship(0, 9, 2, 60);
    x.ship(4, 8, 5, 41);
    x.ship(2, 9, 1, 33);
    x.uses(2, 9);
    x.uses(0, 7);
    between.of(x);
    x.ship(5, 9, 3, 55);
    x.ship(3, 1, 0, 28);
    x.ship(0, 9, 2, 90);
    x.uses(5, 6);
    x.hides(3, 19);
    x.uses(4, 4);
    x.days(3);
    x.sends(1, 77);
    x.uses(3, 8);
    x.hides(1, 3);
    x.hides(1, -2);
    x.hides(2, 50);
    behind.of(x);
    return x;
  }

  private static final Question NOTHING = x -> 0;
  private static final Question FAR_ON = x -> x.then(60, 1);
  private static final Question AS_NOW = x -> x.thereIn(0, 0);

  private static void howeverItBecameSo() {
    TakesWhatItLacks town = byCalls(NOTHING, NOTHING, NOTHING);
    due.is("who is IN of the seven", 1 + 4 + 16 + 32, town.count(3));
    due.is("who is SHUT", 64, town.shut());
    due.is("by whom", 1, town.byWhom(6));
    List<Named> questions = allQuestions(8);
    ofRow(questions);
    for (Named asked : questions) {
      long want = asked.question().of(byCalls(NOTHING, NOTHING, AS_NOW));
      String told = asked.name() + ": ";
      due.is(told + "none asked ahead", want, asked.question().of(byCalls(NOTHING, NOTHING, NOTHING)));
      due.is(told + "asked far on of the new object", want, asked.question().of(byCalls(FAR_ON, NOTHING, NOTHING)));
      due.is(told + "asked far on ahead", want, asked.question().of(byCalls(NOTHING, FAR_ON, NOTHING)));
      due.is(told + "asked far on", want, asked.question().of(byCalls(NOTHING, NOTHING, FAR_ON)));
      due.is(told + "with an IMAGE of no SHIPS", want, asked.question().of(byCalls(x -> x.image(), NOTHING, NOTHING)));
      due.is(told + "with an IMAGE of some", want, asked.question().of(byCalls(NOTHING, x -> x.image(), NOTHING)));
      due.is(told + "with an IMAGE of later DAYS", want,
          asked.question().of(byCalls(NOTHING, NOTHING, SameTownTest::imageOfLater)));
      due.is(told + "with an IMAGE RESTORED", want,
          asked.question().of(byCalls(NOTHING, NOTHING, SameTownTest::imageAndRestore)));
      due.is(told + "with a DAY TAKEN BACK", want,
          asked.question().of(byCalls(NOTHING, NOTHING, SameTownTest::dayAndBack)));
      due.is(told + "with letters", want, asked.question().of(byCalls(x -> x.feed('d'), NOTHING, x -> x.feed('6'))));
    }
  }

  private static long imageAndRestore(TakesWhatItLacks x) {
    x.image();
    x.days(60);
    x.uses(3, 0);
    Due.tell(x, "t099;");
    return x.restore();
  }

  private static long imageOfLater(TakesWhatItLacks x) {
    x.days(60);
    x.image();
    return x.back();
  }

  private static long dayAndBack(TakesWhatItLacks x) {
    x.days(60);
    return x.back();
  }

  // ---- a SHIP among BRIDES

  private static final String[] TOWNS = {
    "u09;u19;u29;u39;u49;u59;", "u09;t027;u13;t109;c27;h210;t260;u29;", "u51;t560;u00;h320;c17;d02;", "d04;",
    "u19;t130;u24;t240;u39;t331;h330;",
  };
  private static final String[] SHIPS = {
    "s09060;", "s02500;", "s04199;", "s11150;", "s29233;", "s25240;", "s37012;", "s49577;", "s43131;", "s59298;", "s51321;",
    "s59399;",
  };

  private static void among(String text, String ship, int brides, boolean isBehindDays, int[] row) {
    TakesWhatItLacks alone = Due.town(text, ship);
    TakesWhatItLacks among = Due.town(text, "s10000;".repeat(brides) + ship + "s10000;".repeat(6 - brides));
    for (TakesWhatItLacks x : new TakesWhatItLacks[] {alone, among}) {
      if (isBehindDays) {
        x.days(5);
      }
      for (int number : row) {
        x.row(number);
      }
    }
    List<Named> asked = new ArrayList<>();
    List<Named> askedAmong = new ArrayList<>();
    ofShip(asked, 0);
    ofShip(askedAmong, brides);
    for (int i = 0; i < asked.size(); i++) {
      due.is(asked.get(i).name() + " of " + ship + " behind " + brides + " BRIDES in " + text,
          asked.get(i).question().of(alone), askedAmong.get(i).question().of(among));
    }
  }

  private static int[] depths(String text, String ship, boolean isBehindDays, int many) {
    TakesWhatItLacks x = Due.town(text, ship);
    if (isBehindDays) {
      x.days(5);
    }
    int[] depths = new int[many];
    for (int i = 0; i < many; i++) {
      depths[i] = x.shipOf(0, 7);
      x.days(1);
    }
    return depths;
  }

  private static void amongBrides() {
    for (String text : TOWNS) {
      for (String ship : SHIPS) {
        for (int many = 0; many <= 6; many += 2) {
          boolean isBehindDays = many == 4;
          for (int brides = 0; brides <= 6; brides++) {
            among(text, ship, brides, isBehindDays, depths(text, ship, isBehindDays, many));
          }
        }
      }
    }
  }

  // ---- GOODS each some places on

  /** The text with each of its GOODS so many places on. */
  private static String on(String text, int places) {
    char[] letters = text.toCharArray();
    for (int at = 0; at < letters.length; at = text.indexOf(';', at) + 1) {
      int good = letters[at] == 's' ? at + 3 : "tuh".indexOf(letters[at]) >= 0 ? at + 1 : -1;
      if (good >= 0) {
        letters[good] = (char) ('0' + (letters[good] - '0' + places) % GOODS);
      }
    }
    return new String(letters);
  }

  private static int bitsOn(int bits, int places) {
    int turned = 0;
    for (int good = 0; good < GOODS; good++) {
      turned |= (bits >> good & 1) << (good + places) % GOODS;
    }
    return turned;
  }

  private static List<Named> ofGoodsOn(int places, int ships) {
    List<Named> questions = new ArrayList<>();
    ofAllGoods(questions);
    for (int good = 0; good < GOODS; good++) {
      ofGood(questions, (good + places) % GOODS);
      for (int other = 0; other < GOODS; other++) {
        ofTwoGoods(questions, (good + places) % GOODS, (other + places) % GOODS);
      }
    }
    for (int ship = 0; ship < ships; ship++) {
      int its = ship;
      add(questions, "forWhat(" + ship + ")", y -> bitsOn(Math.max(0, y.forWhat(its)), GOODS - places));
      add(questions, "byWhom(" + ship + ")", y -> y.byWhom(its));
      add(questions, "loaded(" + ship + ", 1)", y -> y.loaded(its, 1));
      for (int n : SOME_DAYS) {
        add(questions, "fewest(" + ship + ", " + n + "), how many", y -> Integer.bitCount(Math.max(0, y.fewest(its, n))));
        for (int good = 0; good < GOODS; good++) {
          int one = (good + places) % GOODS;
          add(questions, "hide(" + good + ", " + ship + ", " + n + ")", y -> y.hide(one, its, n));
        }
      }
    }
    add(questions, "deepest(3)", y -> bitsOn(y.deepest(3), GOODS - places));
    return questions;
  }

  private static TakesWhatItLacks turned(String[] texts, int places) {
    String[] turned = new String[texts.length];
    for (int i = 0; i < texts.length; i++) {
      turned[i] = on(texts[i], places);
    }
    TakesWhatItLacks x = Due.town(turned);
    x.row(Integer.bitCount(x.count(3)));
    x.row(Integer.bitCount(x.then(1, 1)));
    return x;
  }

  private static void goodsPlacesOn() {
    String[][] towns = {
      {"u09;t027;u13;t109;h210;t260;u29;", "s09060;s04199;s49577;s29233;s59298;"},
      {"u19;t130;u24;t240;u39;t301;h405;u47;", "s09142;s43131;s25240;s51321;s19000;s09320;"},
      {"u51;t560;u03;t040;h010;h320;", "s02599;s49577;s59399;s28150;", "d02;"},
      {"u07;t043;u16;t116;", "s47052;s01138;"},
      {"u19;t145;u29;t245;", "s49160;s09208;s09290;", "d01;"},
    };
    for (String[] texts : towns) {
      int ships = turned(texts, 0).count(0);
      List<Named> asked = ofGoodsOn(0, ships);
      for (int places = 1; places < GOODS; places++) {
        List<Named> askedOn = ofGoodsOn(places, ships);
        for (int i = 0; i < asked.size(); i++) {
          // A new object for each, for together they are more than 512 calls.
          long want = asked.get(i).question().of(turned(texts, 0));
          due.is(asked.get(i).name() + " of " + String.join(" ", texts) + ", " + places + " places on", want,
              askedOn.get(i).question().of(turned(texts, places)));
        }
      }
    }
  }

  public static void main(String[] args) {
    howeverItBecameSo();
    amongBrides();
    goodsPlacesOn();
    due.end("SameTownTest");
  }
}
