/** A harbour whose bar sinks for a ship whose hold has what the town is short of; ../shared/DOC.md tells all of it. */
public final class TakesWhatItLacks {
  private static final int GOODS = 6;
  private static final int SHIPS = 7;
  private static final int KINDS = 6;
  private static final int FIGURES = 10;
  private static final int MOST = 99;
  private static final int FAR = 60;
  private static final int LAST_DAY = 999;
  private static final int TAKEN_BACK = 8;
  private static final int LETTERS = 96;
  private static final int LAST_LETTER = 255;
  private static final int ROW = 12;

  private static final int BRIDE = 1;
  private static final int BALLAST = 2;
  private static final int DOCTOR = 3;
  private static final int MIXED = 4;
  private static final int SMUGGLER = 5;

  private static final int NOBODY = -1;
  private static final int OTHER = -2;
  private static final int STATE = -3;
  private static final int BELOW = -4;
  private static final int ROOM = -6;
  private static final int NONE = -9;
  private static final int REFUSALS = 6;
  private static final int SPARED_BASE = 1000000000;
  private static final long LONG_BASE = 4000000000000000000L;

  private static final int NO_SHIP = 0;
  private static final int ALL_SHIPS = 127;
  private static final int FIRST_HOUSE = 2;
  private static final int SECOND_HOUSE = 1;

  private final Harbour now = new Harbour();
  private final Harbour mind = new Harbour();
  private final Harbour kept = new Harbour();
  private final Past past = new Past();
  private final Text text = new Text();
  private final Numbers told = new Numbers(ROW);
  private final int[] refusals = new int[REFUSALS + 1];
  private boolean isKept;

  public TakesWhatItLacks() {
    // All else is as a Harbour is made: no SHIPS, no COUGHS, DAY 0.
    isKept = false;
  }

  // ---- I. The harbour

  public int feed(int letter) {
    if (letter < 0) {
      return refuse(BELOW);
    }
    if (letter > LAST_LETTER || text.letters.isFull()) {
      return refuse(ROOM);
    }
    text.letters.add(letter);
    return text.letters.length();
  }

  public int harbour() {
    int answer = text.tell(fromNow());
    text.letters.drop();
    if (answer >= 0) {
      now.copyFrom(mind);
      past.drop();
    }
    return answer;
  }

  public int good(int good, int what) {
    if (!isGood(good)) {
      return refuse(NOBODY);
    }
    switch (what) {
      case 0: return now.there[good];
      case 1: return now.used[good];
      case 2: return now.hidden[good];
      case 3: return now.lackOf(good);
      default: return refuse(OTHER);
    }
  }

  public int shipOf(int ship, int what) {
    if (!now.isShip(ship)) {
      return refuse(NOBODY);
    }
    switch (what) {
      case 0: return now.kind[ship];
      case 1: return now.figure[ship];
      case 2: return now.cargo[ship];
      case 3: return now.load[ship];
      case 4: return now.isIn(ship) ? 1 : 0;
      case 5: return now.draws(ship);
      case 6: return now.sinks(ship);
      case 7: return now.depth(ship);
      default: return refuse(OTHER);
    }
  }

  public int tide(int n) {
    int misfit = misfit(n, 0, FAR);
    return misfit != 0 ? refuse(misfit) : tideOf(now.day + n);
  }

  public int ship(int kind, int figure, int good, int load) {
    if (kind < 0 || kind >= KINDS) {
      return refuse(OTHER);
    }
    if (figure < 0 || load < 0) {
      return refuse(BELOW);
    }
    if (figure >= FIGURES || load > MOST || now.ships >= SHIPS) {
      return refuse(ROOM);
    }
    if (!isGood(good)) {
      return refuse(NOBODY);
    }
    now.addShip(kind, figure, good, load);
    past.drop();
    return now.ships - 1;
  }

  public int hides(int good, int n) {
    if (!isGood(good)) {
      return refuse(NOBODY);
    }
    if (!now.canHide(good, n)) {
      return refuse(STATE);
    }
    past.keep(now);
    now.hideAway(good, n);
    return now.there[good];
  }

  public int uses(int good, int v) {
    if (!isGood(good)) {
      return refuse(NOBODY);
    }
    int misfit = misfit(v, 0, 9);
    if (misfit != 0) {
      return refuse(misfit);
    }
    past.keep(now);
    int was = now.used[good];
    now.used[good] = v;
    return was;
  }

  public int sends(int ship, int load) {
    if (!now.isShip(ship)) {
      return refuse(NOBODY);
    }
    int misfit = misfit(load, 0, MOST);
    if (misfit != 0) {
      return refuse(misfit);
    }
    if (!now.isIn(ship)) {
      return refuse(STATE);
    }
    past.keep(now);
    int was = now.load[ship];
    now.load[ship] = load;
    now.sendOut(ship);
    return was;
  }

  public int days(int n) {
    int misfit = misfit(n, 1, FAR);
    if (misfit != 0) {
      return refuse(misfit);
    }
    if (now.day + n > LAST_DAY) {
      return refuse(ROOM);
    }
    past.keep(now);
    now.passDays(n);
    return Integer.bitCount(now.in);
  }

  public int back() {
    if (past.held() == 0) {
      return refuse(STATE);
    }
    past.takeBack(now);
    return past.held();
  }

  // ---- II. In mind

  public int thereIn(int good, int n) {
    if (!isGood(good)) {
      return refuse(NOBODY);
    }
    int misfit = misfit(n, 0, FAR);
    if (misfit != 0) {
      return refuse(misfit);
    }
    Harbour then = fromNow();
    then.passDays(n);
    return then.there[good];
  }

  public int then(int n, int what) {
    int misfit = misfit(n, 0, FAR);
    if (misfit != 0) {
      return refuse(misfit);
    }
    if (what < 0 || what > 1) {
      return refuse(OTHER);
    }
    Harbour then = fromNow();
    then.passDays(n);
    return what == 0 ? then.coughs : then.in;
  }

  public int comes(int ship) {
    if (ship == -1) {
      return firstToComeIn();
    }
    if (!now.isShip(ship)) {
      return refuse(NOBODY);
    }
    return fromNow().daysUntilIn(ship, FAR);
  }

  public int shut() {
    int shutOut = 0;
    for (int ship = 0; ship < now.ships; ship++) {
      if (isShut(ship)) {
        shutOut |= 1 << ship;
      }
    }
    return shutOut;
  }

  public int byWhom(int ship) {
    if (!now.isShip(ship)) {
      return refuse(NOBODY);
    }
    if (!isShut(ship)) {
      return NONE;
    }
    for (int other = 0; other < now.ships; other++) {
      if (isInNextDay(ship, 1 << other)) {
        return other;
      }
    }
    return NONE;
  }

  public int loaded(int ship, int what) {
    if (!now.isShip(ship)) {
      return refuse(NOBODY);
    }
    if (what < 0 || what > 1) {
      return refuse(OTHER);
    }
    if (now.isIn(ship)) {
      return refuse(STATE);
    }
    int best = NONE;
    int soonest = NONE;
    for (int good = 0; good < GOODS; good++) {
      Harbour then = fromNow();
      then.cargo[ship] = good;
      int when = then.daysUntilIn(ship, FAR);
      if (when != NONE && (soonest == NONE || when < soonest)) {
        best = good;
        soonest = when;
      }
    }
    return what == 0 ? best : soonest;
  }

  public int hide(int good, int ship, int n) {
    if (!isGood(good) || !now.isShip(ship)) {
      return refuse(NOBODY);
    }
    int misfit = misfit(n, 1, FAR);
    if (misfit != 0) {
      return refuse(misfit);
    }
    for (int many = 0; many <= now.there[good]; many++) {
      Harbour then = fromNow();
      then.hideAway(good, many);
      if (then.daysUntilIn(ship, n) != NONE) {
        return many;
      }
    }
    return NONE;
  }

  public int fewest(int ship, int n) {
    if (!now.isShip(ship)) {
      return refuse(NOBODY);
    }
    int misfit = misfit(n, 1, FAR);
    if (misfit != 0) {
      return refuse(misfit);
    }
    for (int size = 0; size <= GOODS; size++) {
      for (int goods = 0; goods < 1 << GOODS; goods++) {
        if (Integer.bitCount(goods) == size && isInWithout(goods, ship, n)) {
          return goods;
        }
      }
    }
    return NONE;
  }

  public int forWhat(int ship) {
    if (!now.isShip(ship)) {
      return refuse(NOBODY);
    }
    if (now.isIn(ship)) {
      return refuse(STATE);
    }
    int goods = 0;
    if (isInNextDay(ship, NO_SHIP)) {
      for (int good = 0; good < GOODS; good++) {
        if (!isInUnlacked(ship, good)) {
          goods |= 1 << good;
        }
      }
    }
    return goods;
  }

  public int want(int n) {
    int misfit = misfit(n, 0, FAR);
    return misfit != 0 ? refuse(misfit) : fromNow().wantWithin(n, NO_SHIP);
  }

  public int bare(int what) {
    if (what < 0 || what > 1) {
      return refuse(OTHER);
    }
    Harbour then = fromNow();
    for (int when = 0; when <= FAR; when++) {
      int good = then.firstBare();
      if (good != NONE) {
        return what == 0 ? good : when;
      }
      then.passDay(NO_SHIP);
    }
    return NONE;
  }

  public int lasts(int good) {
    if (!isGood(good)) {
      return refuse(NOBODY);
    }
    int used = now.used[good];
    if (used <= 0) {
      return MOST;
    }
    return Math.min(MOST, (now.there[good] + used - 1) / used);
  }

  public int best(int n) {
    int misfit = misfit(n, 0, FAR);
    if (misfit != 0) {
      return refuse(misfit);
    }
    int best = NONE;
    int most = fromNow().wantWithin(n, NO_SHIP);
    for (int ship = 0; ship < now.ships; ship++) {
      // A SHIP that is IN needs no look: to bar it changes nothing, so it is never more.
      int want = fromNow().wantWithin(n, 1 << ship);
      if (want > most) {
        best = ship;
        most = want;
      }
    }
    return best;
  }

  public int whichTown(int good, int what) {
    if (!isGood(good)) {
      return refuse(NOBODY);
    }
    if (what < 0 || what > 2) {
      return refuse(OTHER);
    }
    int many = 0;
    int least = NONE;
    int greatest = NONE;
    for (int there = 0; there <= MOST; there++) {
      Harbour then = fromNow();
      then.there[good] = there;
      if (tellsWhoCame(then)) {
        many++;
        least = least == NONE ? there : least;
        greatest = there;
      }
    }
    if (what == 0) {
      return many;
    }
    return what == 1 ? least : greatest;
  }

  public int whatKind(int ship, int what) {
    if (!now.isShip(ship)) {
      return refuse(NOBODY);
    }
    if (what < 0 || what > 1) {
      return refuse(OTHER);
    }
    int bits = 0;
    int choices = what == 0 ? KINDS : FIGURES;
    for (int choice = 0; choice < choices; choice++) {
      Harbour then = fromNow();
      if (what == 0) {
        then.kind[ship] = choice;
      } else {
        then.figure[ship] = choice;
      }
      if (tellsDepths(then, ship)) {
        bits |= 1 << choice;
      }
    }
    return bits;
  }

  public int two(int one, int other, int n) {
    if (!isGood(one) || !isGood(other) || one == other) {
      return refuse(NOBODY);
    }
    int misfit = misfit(n, 0, FAR);
    if (misfit != 0) {
      return refuse(misfit);
    }
    for (int pair = 0; pair < 4; pair++) {
      if (loss(FIRST_HOUSE, one, other, n, pair) <= loss(FIRST_HOUSE, one, other, n, pair ^ FIRST_HOUSE)
          && loss(SECOND_HOUSE, one, other, n, pair) <= loss(SECOND_HOUSE, one, other, n, pair ^ SECOND_HOUSE)) {
        return (pair >> 1) * 10 + (pair & 1);
      }
    }
    return NONE;
  }

  public long storms(int ship, int n, int t, int part) {
    if (!now.isShip(ship)) {
      return refuseLong(NOBODY);
    }
    if (n < 0 || t < 2) {
      return refuseLong(BELOW);
    }
    if (n > 7 || t > 20) {
      return refuseLong(ROOM);
    }
    if (part < 0 || part > 1) {
      return refuseLong(OTHER);
    }
    long above = 0;
    for (int stormy = 0; stormy < 1 << n; stormy++) {
      if (isInThrough(ship, n, stormy)) {
        above += power(t - 1, n - Integer.bitCount(stormy));
      }
    }
    return partOfFraction(above, power(t, n), part);
  }

  public int lots(int n, int z, int what) {
    int misfit = misfit(n, 1, 20);
    if (misfit != 0) {
      return refuse(misfit);
    }
    if (what < 0 || what > 1) {
      return refuse(OTHER);
    }
    int sum = 0;
    int seed = z;
    for (int port = 0; port < n; port++) {
      Harbour then = fromNow();
      for (int good = 0; good < GOODS; good++) {
        seed = seed * 1103515245 + 12345;
        then.there[good] = ((seed & 0x7fffffff) >> 16) % 40;
      }
      then.passDays(10);
      sum += what == 0 ? Integer.bitCount(then.in) : then.lackOfAll();
    }
    return sum;
  }

  // ---- III. and IV. What there is now

  public int deepest(int what) {
    switch (what) {
      case 0: return now.deepestShip();
      case 1: return now.shortestGood();
      case 2: return now.lackOf(now.shortestGood());
      case 3: return now.plenty();
      case 4: return now.twins();
      default: return refuse(OTHER);
    }
  }

  public long mean(int part) {
    if (part < 0 || part > 1) {
      return refuseLong(OTHER);
    }
    int sum = 0;
    for (int ship = 0; ship < now.ships; ship++) {
      sum += now.load[ship];
    }
    return partOfFraction(sum, Math.max(1, now.ships), part);
  }

  public int hidden() {
    int sum = 0;
    for (int good = 0; good < GOODS; good++) {
      sum += now.hidden[good];
    }
    return sum;
  }

  public int nextTide(int v) {
    int misfit = misfit(v, 0, 4);
    if (misfit != 0) {
      return refuse(misfit);
    }
    int when = 0;
    while (when < 7 && tideOf(now.day + when) < v) {
      when++;
    }
    return when;
  }

  public int empty() {
    int ships = 0;
    for (int ship = 0; ship < now.ships; ship++) {
      if (now.sinks(ship) == 0) {
        ships |= 1 << ship;
      }
    }
    return ships;
  }

  public int carried(int good) {
    if (!isGood(good)) {
      return refuse(NOBODY);
    }
    int sum = 0;
    for (int ship = 0; ship < now.ships; ship++) {
      if (!now.isIn(ship)) {
        sum += now.brings(ship, good);
      }
    }
    return sum;
  }

  public int filled() {
    Harbour then = fromNow();
    int many = 0;
    for (int ship = 0; ship < then.ships && then.lackOfAll() > 0; ship++) {
      if (!then.isIn(ship)) {
        then.letIn(ship);
        many++;
      }
    }
    return then.lackOfAll() == 0 ? many : NONE;
  }

  public int spared(int good, int n) {
    if (!isGood(good)) {
      return SPARED_BASE - refuse(NOBODY);
    }
    int misfit = misfit(n, 0, FAR);
    if (misfit != 0) {
      return SPARED_BASE - refuse(misfit);
    }
    int want = fromNow().wantWithin(n, NO_SHIP);
    Harbour then = fromNow();
    then.there[good] = Math.min(MOST, then.there[good] + then.hidden[good]);
    then.hidden[good] = 0;
    return want - then.wantWithin(n, NO_SHIP);
  }

  public int race(int one, int other) {
    if (!now.isShip(one) || !now.isShip(other) || one == other) {
      return refuse(NOBODY);
    }
    int lesser = Math.min(one, other);
    int greater = Math.max(one, other);
    int whenLesser = fromNow().daysUntilIn(lesser, FAR);
    int whenGreater = fromNow().daysUntilIn(greater, FAR);
    if (whenGreater == NONE) {
      return whenLesser == NONE ? NONE : lesser;
    }
    return whenLesser != NONE && whenLesser <= whenGreater ? lesser : greater;
  }

  // ---- The ROW

  public int row(int v) {
    int misfit = misfit(v, 0, MOST);
    if (misfit != 0) {
      return refuse(misfit);
    }
    if (told.isFull()) {
      return refuse(ROOM);
    }
    told.add(v);
    return told.length();
  }

  public int judge() {
    int wrong = NONE;
    for (int ship = 0; ship < told.length() && wrong == NONE; ship++) {
      if (!now.isShip(ship) || now.depth(ship) != told.at(ship)) {
        wrong = ship;
      }
    }
    told.drop();
    return wrong;
  }

  public int clear() {
    int many = told.length();
    told.drop();
    return many;
  }

  // ---- THE IMAGE and the counts

  public int image() {
    kept.copyFrom(now);
    isKept = true;
    return now.day;
  }

  public int restore() {
    if (!isKept) {
      return refuse(STATE);
    }
    now.copyFrom(kept);
    past.drop();
    return now.day;
  }

  public int count(int what) {
    switch (what) {
      case 0: return now.ships;
      case 1: return now.day;
      case 2: return now.coughs;
      case 3: return now.in;
      case 4: return now.lackOfAll();
      case 5: return text.letters.length();
      case 6: return told.length();
      case 7: return past.held();
      default: break;
    }
    int refusal = what - 10;
    return what > 10 && refusal < refusals.length ? refusals[refusal] : NONE;
  }

  // ---- Help for the calls above

  private int refuse(int number) {
    int place = -number;
    if (place > 0 && place < refusals.length) {
      refusals[place]++;
    }
    return number;
  }

  private long refuseLong(int number) {
    return LONG_BASE - refuse(number);
  }

  /** BELOW or ROOM, if a number is not from the least to the most; else 0. */
  private static int misfit(int number, int least, int most) {
    if (number < least) {
      return BELOW;
    }
    return number > most ? ROOM : 0;
  }

  private static boolean isGood(int good) {
    return good >= 0 && good < GOODS;
  }

  private static int tideOf(int day) {
    return 4 - Math.abs(Math.floorMod(day, 8) - 4);
  }

  /** All that is looked at in mind is one Harbour used again: each call makes the last one's view worthless. */
  private Harbour fromNow() {
    mind.copyFrom(now);
    return mind;
  }

  private int firstToComeIn() {
    Harbour then = fromNow();
    for (int when = 0; when < FAR; when++) {
      then.passDay(NO_SHIP);
      for (int ship = 0; ship < then.ships; ship++) {
        if (then.isIn(ship) && !now.isIn(ship)) {
          return ship;
        }
      }
    }
    return NONE;
  }

  private boolean isShut(int ship) {
    return !now.isIn(ship) && !isInNextDay(ship, NO_SHIP) && isInNextDay(ship, ALL_SHIPS ^ 1 << ship);
  }

  private boolean isInNextDay(int ship, int barred) {
    Harbour then = fromNow();
    then.passDay(barred);
    return then.isIn(ship);
  }

  private boolean isInWithout(int goods, int ship, int n) {
    Harbour then = fromNow();
    for (int good = 0; good < GOODS; good++) {
      if ((goods >> good & 1) != 0) {
        then.hideAway(good, then.there[good]);
      }
    }
    return then.daysUntilIn(ship, n) != NONE;
  }

  private boolean isInUnlacked(int ship, int good) {
    Harbour then = fromNow();
    // What is not USED is not LACKED, and what is USED goes only when the SHIPS have come.
    then.used[good] = 0;
    then.passDay(NO_SHIP);
    return then.isIn(ship);
  }

  private boolean tellsWhoCame(Harbour then) {
    for (int when = 0; when < told.length(); when++) {
      if (Integer.bitCount(then.in) != told.at(when)) {
        return false;
      }
      then.passDay(NO_SHIP);
    }
    return true;
  }

  private boolean tellsDepths(Harbour then, int ship) {
    for (int when = 0; when < told.length(); when++) {
      if (then.depth(ship) != told.at(when)) {
        return false;
      }
      then.passDay(NO_SHIP);
    }
    return true;
  }

  /** What a house would be without, the less the better; in a pair, the bit of a house that hides is 1. */
  private int loss(int house, int one, int other, int n, int pair) {
    Harbour then = fromNow();
    if ((pair & FIRST_HOUSE) != 0) {
      then.hideAway(one, Math.min(10, then.there[one]));
    }
    if ((pair & SECOND_HOUSE) != 0) {
      then.hideAway(other, Math.min(10, then.there[other]));
    }
    then.passDays(n);
    int lack = then.lackOf(house == FIRST_HOUSE ? one : other);
    return (pair & house) != 0 ? lack + 5 : lack;
  }

  private boolean isInThrough(int ship, int n, int stormy) {
    Harbour then = fromNow();
    for (int when = 0; when < n; when++) {
      then.passDay((stormy >> when & 1) != 0 ? ALL_SHIPS : NO_SHIP);
    }
    return then.isIn(ship);
  }

  private static long power(int base, int exponent) {
    long product = 1;
    for (int i = 0; i < exponent; i++) {
      product *= base;
    }
    return product;
  }

  private static long partOfFraction(long above, long below, int part) {
    long divisor = above;
    long rest = below;
    // Euclid's steps for two longs are fewer than a hundred.
    for (int step = 0; step < 100 && rest != 0; step++) {
      long next = divisor % rest;
      divisor = rest;
      rest = next;
    }
    long asked = part == 0 ? above : below;
    return divisor != 0 ? asked / divisor : asked;
  }

  /** The goods, the ships, the coughs and the day, and how a day goes by. */
  private static final class Harbour {
    final int[] there = new int[GOODS];
    final int[] used = new int[GOODS];
    final int[] hidden = new int[GOODS];
    final int[] kind = new int[SHIPS];
    final int[] figure = new int[SHIPS];
    final int[] cargo = new int[SHIPS];
    final int[] load = new int[SHIPS];
    int ships;
    int in;
    int coughs;
    int day;

    Harbour() {
      for (int good = 0; good < GOODS; good++) {
        there[good] = 20;
        used[good] = 2;
      }
    }

    void copyFrom(Harbour other) {
      for (int good = 0; good < GOODS; good++) {
        there[good] = other.there[good];
        used[good] = other.used[good];
        hidden[good] = other.hidden[good];
      }
      for (int ship = 0; ship < SHIPS; ship++) {
        kind[ship] = other.kind[ship];
        figure[ship] = other.figure[ship];
        cargo[ship] = other.cargo[ship];
        load[ship] = other.load[ship];
      }
      ships = other.ships;
      in = other.in;
      coughs = other.coughs;
      day = other.day;
    }

    boolean isShip(int ship) {
      return ship >= 0 && ship < ships && ship < SHIPS;
    }

    boolean isIn(int ship) {
      return (in >> ship & 1) != 0;
    }

    void sendOut(int ship) {
      in &= ~(1 << ship);
    }

    void addShip(int itsKind, int itsFigure, int itsGood, int itsLoad) {
      if (ships >= 0 && ships < SHIPS) {
        kind[ships] = itsKind;
        figure[ships] = itsFigure;
        cargo[ships] = itsGood;
        load[ships] = itsLoad;
        sendOut(ships);
        ships++;
      }
    }

    int lackOf(int good) {
      if (good < 0 || good >= GOODS) {
        return 0;
      }
      int lack = 7 * used[good] - there[good];
      return lack > 0 ? lack : 0;
    }

    int lackOfAll() {
      int sum = 0;
      for (int good = 0; good < GOODS; good++) {
        sum += lackOf(good);
      }
      return sum;
    }

    int notLacked() {
      int many = 0;
      for (int good = 0; good < GOODS; good++) {
        if (lackOf(good) == 0) {
          many++;
        }
      }
      return many;
    }

    int firstBare() {
      for (int good = 0; good < GOODS; good++) {
        if (there[good] == 0) {
          return good;
        }
      }
      return NONE;
    }

    int draws(int ship) {
      switch (kind[ship]) {
        case BRIDE: return 1;
        case BALLAST: return figure[ship] / 2 + 2;
        case DOCTOR: return 2;
        case MIXED: return figure[ship] + 4;
        case SMUGGLER: return (figure[ship] + 4) / 2;
        default: return figure[ship] + 3;
      }
    }

    int sinks(int ship) {
      int good = cargo[ship];
      switch (kind[ship]) {
        case BRIDE: return 9;
        case BALLAST: return notLacked();
        case DOCTOR: return coughs / 9;
        case MIXED: return lackOf(good) / 3 + lackOf(behind(good)) / 3;
        case SMUGGLER: return lackOf(good) / 3 + lackOf(behind(good)) / 3 + hiddenOf(good) / 10;
        default: return lackOf(good) / 3;
      }
    }

    private int hiddenOf(int good) {
      return good >= 0 && good < GOODS ? hidden[good] : 0;
    }

    private static int behind(int good) {
      return good == GOODS - 1 ? 0 : good + 1;
    }

    int depth(int ship) {
      return tideOf(day) + sinks(ship);
    }

    int brings(int ship, int good) {
      int own = cargo[ship];
      int half = load[ship] / 2;
      switch (kind[ship]) {
        case BRIDE:
          return 0;
        case MIXED:
        case SMUGGLER:
          if (good == own) {
            return half;
          }
          return good == behind(own) ? load[ship] - half : 0;
        default:
          return good == own ? load[ship] : 0;
      }
    }

    void letIn(int ship) {
      for (int good = 0; good < GOODS; good++) {
        there[good] = Math.min(MOST, there[good] + brings(ship, good));
      }
      if (kind[ship] == DOCTOR) {
        coughs = Math.max(0, coughs - 9);
      }
      in |= 1 << ship;
    }

    /** A DAY goes by; the barred SHIPS (bits) do not come IN. */
    void passDay(int barred) {
      int tide = tideOf(day);
      for (int ship = 0; ship < ships; ship++) {
        if (!isIn(ship) && (barred >> ship & 1) == 0 && tide + sinks(ship) >= draws(ship)) {
          letIn(ship);
        }
      }
      for (int good = 0; good < GOODS; good++) {
        there[good] = Math.max(0, there[good] - used[good]);
      }
      if (lackOf(0) > 0) {
        coughs = Math.min(MOST, coughs + 1);
      }
      day++;
    }

    void passDays(int n) {
      for (int i = 0; i < n; i++) {
        passDay(NO_SHIP);
      }
    }

    int daysUntilIn(int ship, int most) {
      for (int when = 0; when < most; when++) {
        if (isIn(ship)) {
          return when;
        }
        passDay(NO_SHIP);
      }
      return isIn(ship) ? most : NONE;
    }

    int wantWithin(int n, int barred) {
      int sum = lackOfAll();
      for (int i = 0; i < n; i++) {
        passDay(barred);
        sum += lackOfAll();
      }
      return sum;
    }

    /** Below 0: so many are THERE again. */
    boolean canHide(int good, int n) {
      return n >= -hidden[good] && n <= there[good] && n <= MOST - hidden[good] && n >= there[good] - MOST;
    }

    void hideAway(int good, int n) {
      there[good] -= n;
      hidden[good] += n;
    }

    int deepestShip() {
      int deepest = NONE;
      int most = 0;
      for (int ship = 0; ship < ships; ship++) {
        if (draws(ship) > most) {
          deepest = ship;
          most = draws(ship);
        }
      }
      return deepest;
    }

    int shortestGood() {
      int shortest = 0;
      for (int good = 1; good < GOODS; good++) {
        if (lackOf(good) > lackOf(shortest)) {
          shortest = good;
        }
      }
      return shortest;
    }

    int plenty() {
      int goods = 0;
      for (int good = 0; good < GOODS; good++) {
        if (there[good] > 7 * used[good]) {
          goods |= 1 << good;
        }
      }
      return goods;
    }

    int twins() {
      int twos = 0;
      for (int ship = 0; ship < ships; ship++) {
        for (int other = 0; other < ship; other++) {
          if (cargo[ship] == cargo[other]) {
            twos++;
          }
        }
      }
      return twos;
    }
  }

  /** What the harbour was ahead of the latest changes. Its rows are used again: what is made is never let go. */
  private static final class Past {
    private final Harbour[] rows = new Harbour[TAKEN_BACK];
    private int held;

    Past() {
      for (int i = 0; i < TAKEN_BACK; i++) {
        rows[i] = new Harbour();
      }
    }

    int held() {
      return held;
    }

    void drop() {
      held = 0;
    }

    void keep(Harbour harbour) {
      if (held >= TAKEN_BACK) {
        forgetOldest();
      }
      Harbour free = at(held);
      if (free != null) {
        free.copyFrom(harbour);
        held++;
      }
    }

    void takeBack(Harbour harbour) {
      Harbour latest = at(held - 1);
      if (latest != null) {
        harbour.copyFrom(latest);
        held--;
      }
    }

    private Harbour at(int place) {
      return place >= 0 && place < rows.length ? rows[place] : null;
    }

    private void forgetOldest() {
      Harbour oldest = rows[0];
      for (int i = 1; i < TAKEN_BACK; i++) {
        rows[i - 1] = rows[i];
      }
      rows[TAKEN_BACK - 1] = oldest;
      held = TAKEN_BACK - 1;
    }
  }

  /** Numbers one behind the other, up to a bound. */
  private static final class Numbers {
    private final int[] cells;
    private int length;

    Numbers(int most) {
      cells = new int[Math.max(0, most)];
    }

    int length() {
      return length;
    }

    boolean isFull() {
      return length >= cells.length;
    }

    void add(int number) {
      if (length >= 0 && length < cells.length) {
        cells[length] = number;
        length++;
      }
    }

    /** -1 where there is none. */
    int at(int place) {
      return place >= 0 && place < length && place < cells.length ? cells[place] : -1;
    }

    void drop() {
      length = 0;
    }
  }

  /** A HARBOUR told in letters. */
  private static final class Text {
    final Numbers letters = new Numbers(LETTERS);

    /** Changes the harbour, also ahead of a FAULT of kind 2: give it one that may be spoiled. */
    int tell(Harbour harbour) {
      int lacking = faultyLetter();
      if (lacking >= 0) {
        return -1000 - lacking;
      }
      int place = 0;
      int statements = 0;
      while (statements < LETTERS && place < letters.length()) {
        if (!isAsItMustBe(harbour, place)) {
          return -2000 - place;
        }
        carryOut(harbour, place);
        place += sizeOf(letters.at(place));
        statements++;
      }
      return statements;
    }

    /** The place of the first letter with which no HARBOUR can go on; -1 if all can be read. */
    private int faultyLetter() {
      int place = 0;
      for (int i = 0; i < LETTERS && (i == 0 || place < letters.length()); i++) {
        int faulty = faultyLetterFrom(place);
        if (faulty >= 0) {
          return faulty;
        }
        place += sizeOf(letters.at(place));
      }
      return -1;
    }

    private int faultyLetterFrom(int place) {
      int size = sizeOf(letters.at(place));
      if (size == 0) {
        return place;
      }
      int last = place + size - 1;
      for (int i = place + 1; i < last; i++) {
        if (digit(i) < 0) {
          return i;
        }
      }
      return letters.at(last) == ';' ? -1 : last;
    }

    /** How many letters a STATEMENT has that begins with this one, the ";" among them; 0 if none begins so. */
    private static int sizeOf(int letter) {
      switch (letter) {
        case 's': return 7;
        case 't': return 5;
        case 'u': return 4;
        case 'h': return 5;
        case 'o': return 3;
        case 'c': return 4;
        case 'd': return 4;
        default: return 0;
      }
    }

    private int digit(int place) {
      int letter = letters.at(place);
      return letter >= '0' && letter <= '9' ? letter - '0' : -1;
    }

    private int twoDigits(int place) {
      return 10 * digit(place) + digit(place + 1);
    }

    private boolean isAsItMustBe(Harbour harbour, int place) {
      int first = digit(place + 1);
      switch (letters.at(place)) {
        case 's': return first < KINDS && isGood(digit(place + 3)) && harbour.ships < SHIPS;
        case 't': return isGood(first);
        case 'u': return isGood(first);
        case 'h': return isGood(first) && harbour.canHide(first, twoDigits(place + 2));
        case 'o': return harbour.isShip(first) && harbour.isIn(first);
        case 'd': return misfit(twoDigits(place + 1), 1, Math.min(FAR, LAST_DAY - harbour.day)) == 0;
        default: return true;
      }
    }

    /** Only what is as it must be. */
    private void carryOut(Harbour harbour, int place) {
      int first = digit(place + 1);
      switch (letters.at(place)) {
        case 's': harbour.addShip(first, digit(place + 2), digit(place + 3), twoDigits(place + 4)); break;
        case 't': harbour.there[first] = twoDigits(place + 2); break;
        case 'u': harbour.used[first] = digit(place + 2); break;
        case 'h': harbour.hideAway(first, twoDigits(place + 2)); break;
        case 'o': harbour.sendOut(first); break;
        case 'c': harbour.coughs = twoDigits(place + 1); break;
        case 'd': harbour.passDays(twoDigits(place + 1)); break;
        default: break;
      }
    }
  }
}
