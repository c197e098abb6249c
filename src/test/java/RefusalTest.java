import java.util.ArrayList;
import java.util.Arrays;
import java.util.List;

/**
 * REFUSALS: of each number that a call takes the least, the greatest and those on either side of them, each with each of
 * the other numbers' (so that every two refusals meet), in a town that has nothing, in one that has some of all, and in one
 * that is full. "The first that fits in the order in which it tells them; nothing changes but how many there were."
 */
final class RefusalTest {
  private static final int LEAST = Integer.MIN_VALUE;
  private static final int GREATEST = Integer.MAX_VALUE;
  private static final long LONG_BASE = 4000000000000000000L;
  private static final long SPARED_BASE = 1000000000L;
  private static final Due due = new Due();

  private interface Call {
    long of(TakesWhatItLacks x, int[] n);
  }

  /** What refuses the numbers as they stand together, or the town as it is; 0 if nothing does. */
  private interface Together {
    int refusal(int[] n);
  }

  /** Numbers for one place of a call, and what refuses each; 0 if nothing does. */
  private record Place(int[] numbers, int[] refusals) {
  }

  private static Place range(int least, int greatest, int below, int above) {
    int[] numbers = {LEAST, least - 1, least, least + 1, greatest - 1, greatest, greatest + 1, GREATEST};
    int[] refusals = new int[numbers.length];
    for (int i = 0; i < numbers.length; i++) {
      refusals[i] = numbers[i] < least ? below : numbers[i] > greatest ? above : 0;
    }
    return new Place(numbers, refusals);
  }

  private static Place goods() {
    return range(0, 5, -1, -1);
  }

  private static Place what(int greatest) {
    return range(0, greatest, -2, -2);
  }

  private static Place daysOn(int least) {
    return range(least, 60, -4, -6);
  }

  // ---- the towns

  /** A town whose numbers are reckoned by hand, made anew for each call. */
  private abstract static class Town {
    abstract String name();

    abstract TakesWhatItLacks make();

    int[] there() {
      return new int[] {20, 20, 20, 20, 20, 20};
    }

    int[] hidden() {
      return new int[6];
    }

    /** One of each SHIP: 1 it is IN. */
    int[] in() {
      return new int[0];
    }

    int day() {
      return 0;
    }

    boolean hasPast() {
      return true;
    }

    boolean hasImage() {
      return true;
    }

    boolean isFull() {
      return false;
    }

    Place ships() {
      int many = in().length;
      return many == 0 ? new Place(new int[] {LEAST, -1, 0, GREATEST}, new int[] {-1, -1, -1, -1})
          : range(0, many - 1, -1, -1);
    }

    /** All SHIPS: refused with the one number if IN, with the other if OUT. */
    Place shipsInAndOut(int ifIn, int ifOut) {
      int many = in().length;
      int[] numbers = new int[many + 4];
      int[] refusals = new int[many + 4];
      Arrays.fill(refusals, -1);
      for (int i = 0; i < many; i++) {
        numbers[i] = i;
        refusals[i] = in()[i] == 1 ? ifIn : ifOut;
      }
      int[] others = {LEAST, -1, many, GREATEST};
      System.arraycopy(others, 0, numbers, many, 4);
      return new Place(numbers, refusals);
    }
  }

  /** No SHIPS, no letters, nothing in the ROW, nothing to be TAKEN BACK, no IMAGE. */
  private static final class Empty extends Town {
    @Override String name() {
      return "nothing";
    }

    @Override TakesWhatItLacks make() {
      return new TakesWhatItLacks();
    }

    @Override boolean hasPast() {
      return false;
    }

    @Override boolean hasImage() {
      return false;
    }
  }

  /** Some of all: on DAY 0 the BRIDE comes IN, and so do neither of the others, of whose GOODS nothing is LACKED. */
  private static final class Some extends Town {
    @Override String name() {
      return "some";
    }

    @Override TakesWhatItLacks make() {
      TakesWhatItLacks x = Due.town("s10312;s09360;s04520;t355;c07;h405;d01;");
      x.image();
      x.uses(1, 3);
      x.hides(0, 6);
      x.days(1);
      for (int depth : new int[] {11, 2, 2}) {
        x.row(depth);
      }
      for (char letter : "t17".toCharArray()) {
        x.feed(letter);
      }
      return x;
    }

    @Override int[] there() {
      return new int[] {20 - 2 - 6 - 2, 20 - 2 - 3, 16, 51, 15 - 4, 16};
    }

    @Override int[] hidden() {
      return new int[] {6, 0, 0, 0, 5, 0};
    }

    @Override int[] in() {
      return new int[] {1, 0, 0};
    }

    @Override int day() {
      return 2;
    }
  }

  /** Seven SHIPS, 96 letters, twelve in the ROW, eight to be TAKEN BACK, 99 THERE and 99 HIDDEN, the last DAY. */
  private static final class Full extends Town {
    @Override String name() {
      return "full";
    }

    @Override TakesWhatItLacks make() {
      TakesWhatItLacks x = new TakesWhatItLacks();
      for (int i = 0; i < 5; i++) {
        x.ship(1, i, i, 90 + i);
      }
      x.ship(0, 9, 5, 95);
      x.ship(0, 9, 5, 96);
      for (int good = 0; good < 6; good++) {
        x.uses(good, 0);
      }
      for (int i = 0; i < 16; i++) {
        x.days(60);
      }
      tell(x, "t099;h099;t099;");
      x.days(39);
      x.image();
      for (int i = 0; i < 8; i++) {
        x.uses(5, i == 7 ? 0 : 1 + i);
      }
      for (int i = 0; i < 12; i++) {
        x.row(i < 5 ? 10 : i < 7 ? 1 : i);
      }
      for (int i = 0; i < 24; i++) {
        feed(x, "c07;");
      }
      return x;
    }

    @Override int[] there() {
      return new int[] {99, 20, 20, 20, 20, 20};
    }

    @Override int[] hidden() {
      return new int[] {99, 0, 0, 0, 0, 0};
    }

    @Override int[] in() {
      return new int[] {1, 1, 1, 1, 1, 0, 0};
    }

    @Override int day() {
      return 999;
    }

    @Override boolean isFull() {
      return true;
    }
  }

  private static void feed(TakesWhatItLacks x, String text) {
    for (char letter : text.toCharArray()) {
      x.feed(letter);
    }
  }

  private static int tell(TakesWhatItLacks x, String text) {
    feed(x, text);
    return x.harbour();
  }

  // ---- all that there is

  private static void brief(TakesWhatItLacks x, int ships, List<Long> told) {
    for (int good = 0; good < 6; good++) {
      for (int what = 0; what < 3; what++) {
        told.add((long) x.good(good, what));
      }
    }
    for (int ship = 0; ship < ships; ship++) {
      told.add((long) x.shipOf(ship, 3));
    }
    for (int what = 1; what <= 3; what++) {
      told.add((long) x.count(what));
    }
  }

  /** All that can be seen of an object, also what is seen only by spending it; no more than 512 calls, all told. */
  private static List<Long> everything(TakesWhatItLacks x, Town town) {
    int ships = town.in().length;
    List<Long> told = new ArrayList<>();
    for (int what = 0; what <= 7; what++) {
      told.add((long) x.count(what));
    }
    for (int ship = 0; ship < ships; ship++) {
      for (int what = 0; what <= 7; what++) {
        told.add((long) x.shipOf(ship, what));
      }
    }
    brief(x, ships, told);
    told.add((long) x.judge());
    int more = 0;
    while (more >= 0) {
      more = x.back();
      told.add((long) more);
      if (more >= 0) {
        brief(x, ships, told);
      }
    }
    told.add((long) x.restore());
    brief(x, ships, told);
    if (!town.isFull()) {
      feed(x, "7;");
    }
    told.add((long) x.harbour());
    told.add((long) x.good(1, 0));
    return told;
  }

  // ---- a call with all its numbers

  private static final class Asked {
    private final String name;
    private final Town town;
    private final Call call;
    private int[] order = {};
    private Place[] places = {};
    private Together together = n -> 0;
    private long base;
    private boolean changes;
    private List<Long> untouched;

    Asked(String name, Town town, Call call) {
      this.name = name;
      this.town = town;
      this.call = call;
    }

    Asked refusedBy(int... inOrder) {
      order = inOrder;
      return this;
    }

    Asked alsoBy(Together also) {
      together = also;
      return this;
    }

    Asked answersFrom(long itsBase) {
      base = itsBase;
      return this;
    }

    Asked changesIfNotRefused() {
      changes = true;
      return this;
    }

    void takes(Place... itsPlaces) {
      places = itsPlaces;
      untouched = everything(town.make(), town);
      ask(0, new int[places.length], new int[places.length + 1]);
    }

    private void ask(int place, int[] numbers, int[] refusals) {
      if (place < places.length) {
        for (int i = 0; i < places[place].numbers().length; i++) {
          numbers[place] = places[place].numbers()[i];
          refusals[place] = places[place].refusals()[i];
          ask(place + 1, numbers, refusals);
        }
        return;
      }
      refusals[place] = together.refusal(numbers);
      judge(numbers, first(refusals));
    }

    private int first(int[] refusals) {
      for (int number : order) {
        for (int refusal : refusals) {
          if (refusal == number) {
            return number;
          }
        }
      }
      return 0;
    }

    private void judge(int[] numbers, int refusal) {
      TakesWhatItLacks x = town.make();
      String told = name + Arrays.toString(numbers) + " in the town that has " + town.name();
      long answer = call.of(x, numbers);
      if (refusal != 0) {
        due.is(told, base == 0 ? refusal : base - refusal, answer);
      }
      for (int number = 1; number <= 6; number++) {
        due.is(told + ": REFUSALS -" + number, refusal == -number ? 1 : 0, x.count(10 + number));
      }
      if (refusal != 0 || !changes) {
        due.is(told + ": all else is as it was", 1, everything(x, town).equals(untouched) ? 1 : 0);
      }
    }
  }

  private static void changes(Town town) {
    int[] there = town.there();
    int[] hidden = town.hidden();
    new Asked("feed", town, (x, n) -> x.feed(n[0])).refusedBy(-4, -6).changesIfNotRefused()
        .alsoBy(n -> town.isFull() ? -6 : 0).takes(range(0, 255, -4, -6));
    new Asked("ship", town, (x, n) -> x.ship(n[0], n[1], n[2], n[3])).refusedBy(-2, -4, -6, -1).changesIfNotRefused()
        .alsoBy(n -> town.isFull() ? -6 : 0).takes(what(5), range(0, 9, -4, -6), goods(), range(0, 99, -4, -6));
    for (int good = 0; good < 6; good++) {
      int one = good;
      new Asked("hides", town, (x, n) -> x.hides(n[0], n[1])).refusedBy(-1, -3).changesIfNotRefused()
          .takes(new Place(new int[] {one, -1, 6}, new int[] {0, -1, -1}),
              // So many can be HIDDEN as are THERE, but not above 99; so many be THERE again as are HIDDEN, not above 99.
              range(-Math.min(hidden[one], 99 - there[one]), Math.min(there[one], 99 - hidden[one]), -3, -3));
    }
    new Asked("uses", town, (x, n) -> x.uses(n[0], n[1])).refusedBy(-1, -4, -6).changesIfNotRefused()
        .takes(goods(), range(0, 9, -4, -6));
    new Asked("sends", town, (x, n) -> x.sends(n[0], n[1])).refusedBy(-1, -4, -6, -3).changesIfNotRefused()
        .takes(town.shipsInAndOut(0, -3), range(0, 99, -4, -6));
    new Asked("days", town, (x, n) -> x.days(n[0])).refusedBy(-4, -6).changesIfNotRefused()
        .alsoBy(n -> town.day() > 999 - n[0] ? -6 : 0).takes(daysOn(1));
    new Asked("back", town, (x, n) -> x.back()).refusedBy(-3).changesIfNotRefused()
        .alsoBy(n -> town.hasPast() ? 0 : -3).takes();
    new Asked("row", town, (x, n) -> x.row(n[0])).refusedBy(-4, -6).changesIfNotRefused()
        .alsoBy(n -> town.isFull() ? -6 : 0).takes(range(0, 99, -4, -6));
    new Asked("restore", town, (x, n) -> x.restore()).refusedBy(-3).changesIfNotRefused()
        .alsoBy(n -> town.hasImage() ? 0 : -3).takes();
    new Asked("harbour", town, (x, n) -> x.harbour()).changesIfNotRefused().takes();
    new Asked("judge", town, (x, n) -> x.judge()).changesIfNotRefused().takes();
    new Asked("clear", town, (x, n) -> x.clear()).changesIfNotRefused().takes();
    new Asked("image", town, (x, n) -> x.image()).changesIfNotRefused().takes();
  }

  private static void questionsNow(Town town) {
    new Asked("good", town, (x, n) -> x.good(n[0], n[1])).refusedBy(-1, -2).takes(goods(), what(3));
    new Asked("shipOf", town, (x, n) -> x.shipOf(n[0], n[1])).refusedBy(-1, -2).takes(town.ships(), what(7));
    new Asked("tide", town, (x, n) -> x.tide(n[0])).refusedBy(-4, -6).takes(daysOn(0));
    new Asked("deepest", town, (x, n) -> x.deepest(n[0])).refusedBy(-2).takes(what(4));
    new Asked("mean", town, (x, n) -> x.mean(n[0])).refusedBy(-2).answersFrom(LONG_BASE).takes(what(1));
    new Asked("hidden", town, (x, n) -> x.hidden()).takes();
    new Asked("nextTide", town, (x, n) -> x.nextTide(n[0])).refusedBy(-4, -6).takes(range(0, 4, -4, -6));
    new Asked("empty", town, (x, n) -> x.empty()).takes();
    new Asked("carried", town, (x, n) -> x.carried(n[0])).refusedBy(-1).takes(goods());
    new Asked("filled", town, (x, n) -> x.filled()).takes();
    new Asked("count", town, (x, n) -> x.count(n[0])).takes(range(0, 7, 0, 0));
    new Asked("count", town, (x, n) -> x.count(n[0])).takes(range(11, 16, 0, 0));
  }

  private static void questionsAhead(Town town) {
    new Asked("thereIn", town, (x, n) -> x.thereIn(n[0], n[1])).refusedBy(-1, -4, -6).takes(goods(), daysOn(0));
    new Asked("then", town, (x, n) -> x.then(n[0], n[1])).refusedBy(-4, -6, -2).takes(daysOn(0), what(1));
    new Asked("comes", town, (x, n) -> x.comes(n[0])).refusedBy(-1)
        .takes(range(-1, town.in().length - 1, -1, -1));
    new Asked("shut", town, (x, n) -> x.shut()).takes();
    new Asked("byWhom", town, (x, n) -> x.byWhom(n[0])).refusedBy(-1).takes(town.ships());
    new Asked("loaded", town, (x, n) -> x.loaded(n[0], n[1])).refusedBy(-1, -2, -3)
        .takes(town.shipsInAndOut(-3, 0), what(1));
    new Asked("hide", town, (x, n) -> x.hide(n[0], n[1], n[2])).refusedBy(-1, -4, -6)
        .takes(goods(), town.ships(), daysOn(1));
    new Asked("fewest", town, (x, n) -> x.fewest(n[0], n[1])).refusedBy(-1, -4, -6).takes(town.ships(), daysOn(1));
    new Asked("forWhat", town, (x, n) -> x.forWhat(n[0])).refusedBy(-1, -3).takes(town.shipsInAndOut(-3, 0));
    new Asked("want", town, (x, n) -> x.want(n[0])).refusedBy(-4, -6).takes(daysOn(0));
    new Asked("bare", town, (x, n) -> x.bare(n[0])).refusedBy(-2).takes(what(1));
    new Asked("lasts", town, (x, n) -> x.lasts(n[0])).refusedBy(-1).takes(goods());
    new Asked("best", town, (x, n) -> x.best(n[0])).refusedBy(-4, -6).takes(daysOn(0));
    new Asked("whichTown", town, (x, n) -> x.whichTown(n[0], n[1])).refusedBy(-1, -2).takes(goods(), what(2));
    new Asked("whatKind", town, (x, n) -> x.whatKind(n[0], n[1])).refusedBy(-1, -2).takes(town.ships(), what(1));
    new Asked("two", town, (x, n) -> x.two(n[0], n[1], n[2])).refusedBy(-1, -4, -6)
        .alsoBy(n -> n[0] == n[1] ? -1 : 0).takes(goods(), goods(), daysOn(0));
    new Asked("storms", town, (x, n) -> x.storms(n[0], n[1], n[2], n[3])).refusedBy(-1, -4, -6, -2)
        .answersFrom(LONG_BASE).takes(town.ships(), range(0, 7, -4, -6), range(2, 20, -4, -6), what(1));
    new Asked("spared", town, (x, n) -> x.spared(n[0], n[1])).refusedBy(-1, -4, -6).answersFrom(SPARED_BASE)
        .takes(goods(), daysOn(0));
    new Asked("race", town, (x, n) -> x.race(n[0], n[1])).refusedBy(-1).alsoBy(n -> n[0] == n[1] ? -1 : 0)
        .takes(town.ships(), town.ships());
    new Asked("lots", town, (x, n) -> x.lots(n[0], n[1], n[2])).refusedBy(-4, -6, -2)
        .takes(range(1, 20, -4, -6), new Place(new int[] {LEAST, -1, 0, GREATEST}, new int[4]), what(1));
  }

  /** The towns are as they are said to be: what is refused in them hangs on it. */
  private static void townsAreAsSaid(Town town) {
    TakesWhatItLacks x = town.make();
    for (int good = 0; good < 6; good++) {
      due.is("THERE of " + good + " in the town that has " + town.name(), town.there()[good], x.good(good, 0));
      due.is("HIDDEN of " + good + " in the town that has " + town.name(), town.hidden()[good], x.good(good, 2));
    }
    due.is("SHIPS in the town that has " + town.name(), town.in().length, x.count(0));
    for (int ship = 0; ship < town.in().length; ship++) {
      due.is("IN, SHIP " + ship + " in the town that has " + town.name(), town.in()[ship], x.shipOf(ship, 4));
    }
    due.is("DAY in the town that has " + town.name(), town.day(), x.count(1));
    boolean some = town.hasPast() && !town.isFull();
    due.is("letters in the town that has " + town.name(), town.isFull() ? 96 : some ? 3 : 0, x.count(5));
    due.is("in the ROW of the town that has " + town.name(), town.isFull() ? 12 : some ? 3 : 0, x.count(6));
    due.is("TAKEN BACK in the town that has " + town.name(), town.isFull() ? 8 : some ? 3 : 0, x.count(7));
    due.is("JUDGED in the town that has " + town.name(), town.isFull() ? 7 : -9, x.judge());
  }

  /** "An object is used for at most 512 calls": the last of them is answered as the first. */
  private static void the512thCall() {
    TakesWhatItLacks x = new TakesWhatItLacks();
    for (int i = 1; i <= 511; i++) {
      x.tide(-1);
    }
    due.is("count(14) as the 512th call, behind 511 that were refused", 511, x.count(14));
    TakesWhatItLacks y = Due.town("s10000;");
    for (int i = 9; i <= 511; i++) {
      y.hides(0, 0);
    }
    due.is("days(1) as the 512th call", 1, y.days(1));
  }

  public static void main(String[] args) {
    for (Town town : new Town[] {new Empty(), new Some(), new Full()}) {
      townsAreAsSaid(town);
      changes(town);
      questionsNow(town);
      questionsAhead(town);
    }
    the512thCall();
    due.end("RefusalTest");
  }
}
