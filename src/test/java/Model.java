import java.math.BigInteger;
import java.util.ArrayDeque;
import java.util.ArrayList;
import java.util.Deque;
import java.util.List;
import java.util.function.IntPredicate;
import java.util.regex.Matcher;
import java.util.regex.Pattern;

/**
 * The document once more, written word by word and without care for room or time, to be asked beside the class.
 * It shares no line with it: KINDS are classes here, a state is copied for each look, fractions are BigIntegers.
 */
final class Model {
  private Town now = new Town();
  private Town image;
  private final Deque<Town> past = new ArrayDeque<>();
  private final StringBuilder letters = new StringBuilder();
  private List<Integer> row = new ArrayList<>();
  private final int[] refusals = new int[7];

  // ---- the state

  static class Ship {
    final int kind;
    final int figure;
    final int good;
    int load;
    boolean in;

    Ship(int kind, int figure, int good, int load) {
      this.kind = kind;
      this.figure = figure;
      this.good = good;
      this.load = load;
    }

    static Ship of(int kind, int figure, int good, int load) {
      return switch (kind) {
        case 1 -> new Bride(kind, figure, good, load);
        case 2 -> new Ballast(kind, figure, good, load);
        case 3 -> new Doctor(kind, figure, good, load);
        case 4 -> new Mixed(kind, figure, good, load);
        case 5 -> new Smuggler(kind, figure, good, load);
        default -> new Ship(kind, figure, good, load);
      };
    }

    Ship with(int newKind, int newFigure, int newGood) {
      Ship ship = of(newKind, newFigure, newGood, load);
      ship.in = in;
      return ship;
    }

    int draws() {
      return figure + 3;
    }

    int sinks(Town town) {
      return town.lack(good) / 3;
    }

    void bring(Town town) {
      town.more(good, load);
    }
  }

  static class Bride extends Ship {
    Bride(int kind, int figure, int good, int load) {
      super(kind, figure, good, load);
    }

    @Override int draws() {
      return 1;
    }

    @Override int sinks(Town town) {
      return 9;
    }

    @Override void bring(Town town) {
    }
  }

  static class Ballast extends Ship {
    Ballast(int kind, int figure, int good, int load) {
      super(kind, figure, good, load);
    }

    @Override int draws() {
      return figure / 2 + 2;
    }

    @Override int sinks(Town town) {
      int many = 0;
      for (int good = 0; good < 6; good++) {
        many += town.lack(good) == 0 ? 1 : 0;
      }
      return many;
    }
  }

  static class Doctor extends Ship {
    Doctor(int kind, int figure, int good, int load) {
      super(kind, figure, good, load);
    }

    @Override int draws() {
      return 2;
    }

    @Override int sinks(Town town) {
      return town.coughs / 9;
    }

    @Override void bring(Town town) {
      super.bring(town);
      town.coughs = Math.max(0, town.coughs - 9);
    }
  }

  static class Mixed extends Ship {
    Mixed(int kind, int figure, int good, int load) {
      super(kind, figure, good, load);
    }

    @Override int draws() {
      return super.draws() + 1;
    }

    @Override int sinks(Town town) {
      return super.sinks(town) + town.lack((good + 1) % 6) / 3;
    }

    @Override void bring(Town town) {
      town.more(good, load / 2);
      town.more((good + 1) % 6, load - load / 2);
    }
  }

  static class Smuggler extends Mixed {
    Smuggler(int kind, int figure, int good, int load) {
      super(kind, figure, good, load);
    }

    @Override int draws() {
      return super.draws() / 2;
    }

    @Override int sinks(Town town) {
      return super.sinks(town) + town.hidden[good] / 10;
    }
  }

  static class Town {
    int[] there = {20, 20, 20, 20, 20, 20};
    int[] used = {2, 2, 2, 2, 2, 2};
    int[] hidden = new int[6];
    List<Ship> ships = new ArrayList<>();
    int coughs;
    int day;
    int withoutLackOf = -1;
    boolean uncapped;

    Town copy() {
      Town copy = new Town();
      copy.there = there.clone();
      copy.used = used.clone();
      copy.hidden = hidden.clone();
      for (Ship ship : ships) {
        copy.ships.add(ship.with(ship.kind, ship.figure, ship.good));
      }
      copy.coughs = coughs;
      copy.day = day;
      return copy;
    }

    int lack(int good) {
      return good == withoutLackOf ? 0 : Math.max(0, 7 * used[good] - there[good]);
    }

    int lack() {
      int sum = 0;
      for (int good = 0; good < 6; good++) {
        sum += lack(good);
      }
      return sum;
    }

    void more(int good, int n) {
      there[good] += n;
      if (there[good] > 99 && !uncapped) {
        there[good] = 99;
      }
    }

    int tide() {
      return new int[] {0, 1, 2, 3, 4, 3, 2, 1}[day % 8];
    }

    int depth(int ship) {
      return tide() + ships.get(ship).sinks(this);
    }

    Town pass(IntPredicate mayCome) {
      for (int i = 0; i < ships.size(); i++) {
        Ship ship = ships.get(i);
        if (!ship.in && mayCome.test(i) && depth(i) >= ship.draws()) {
          ship.in = true;
          ship.bring(this);
        }
      }
      for (int good = 0; good < 6; good++) {
        there[good] = Math.max(0, there[good] - used[good]);
      }
      if (lack(0) > 0 && coughs < 99) {
        coughs++;
      }
      day++;
      return this;
    }

    Town pass(int n) {
      for (int i = 0; i < n; i++) {
        pass(ship -> true);
      }
      return this;
    }

    Town behind(int n) {
      return copy().pass(n);
    }

    int inBits() {
      int bits = 0;
      for (int i = 0; i < ships.size(); i++) {
        bits |= ships.get(i).in ? 1 << i : 0;
      }
      return bits;
    }

    boolean isIn(int ship) {
      return ships.get(ship).in;
    }

    int comes(int ship) {
      return comesWithin(ship, 60);
    }

    int comesWithin(int ship, int n) {
      for (int i = 0; i <= n; i++) {
        if (behind(i).isIn(ship)) {
          return i;
        }
      }
      return -9;
    }

    Town hiding(int good, int n) {
      Town town = copy();
      town.there[good] -= n;
      town.hidden[good] += n;
      return town;
    }

    int want(int n, IntPredicate mayCome) {
      Town town = copy();
      int sum = 0;
      for (int i = 0; i <= n; i++) {
        sum += town.lack();
        town.pass(mayCome);
      }
      return sum;
    }

    int want(int n) {
      return want(n, ship -> true);
    }
  }

  // ---- refusals

  private int no(int number) {
    refusals[-number]++;
    return number;
  }

  private long noLong(int number) {
    return 4000000000000000000L - no(number);
  }

  private boolean noGood(int good) {
    return good < 0 || good > 5;
  }

  private boolean noShip(int ship) {
    return ship < 0 || ship >= now.ships.size();
  }

  // ---- the calls

  int feed(int letter) {
    if (letter < 0) return no(-4);
    if (letter > 255 || letters.length() == 96) return no(-6);
    letters.append((char) letter);
    return letters.length();
  }

  private static final String[] FORMS =
      {"s[0-9]{5};", "t[0-9]{3};", "u[0-9]{2};", "h[0-9]{3};", "o[0-9];", "c[0-9]{2};", "d[0-9]{2};"};

  int harbour() {
    String text = letters.toString();
    letters.setLength(0);
    Pattern whole = Pattern.compile("(" + String.join("|", FORMS) + ")+");
    if (!whole.matcher(text).matches()) {
      for (int i = 0; i < text.length(); i++) {
        Matcher matcher = whole.matcher(text.substring(0, i + 1));
        if (!matcher.matches() && !matcher.hitEnd()) return -1000 - i;
      }
      return -1000 - text.length();
    }
    Town town = now.copy();
    int place = 0;
    int many = 0;
    for (String statement : text.split(";")) {
      if (!take(town, statement)) return -2000 - place;
      place += statement.length() + 1;
      many++;
    }
    now = town;
    past.clear();
    return many;
  }

  private static boolean take(Town town, String s) {
    int first = s.charAt(1) - '0';
    int rest = Integer.parseInt(s.substring(1));
    switch (s.charAt(0)) {
      case 's':
        int good = s.charAt(3) - '0';
        if (first > 5 || good > 5 || town.ships.size() == 7) return false;
        town.ships.add(Ship.of(first, s.charAt(2) - '0', good, rest % 100));
        return true;
      case 't':
        if (first > 5) return false;
        town.there[first] = rest % 100;
        return true;
      case 'u':
        if (first > 5) return false;
        town.used[first] = rest % 10;
        return true;
      case 'h':
        if (first > 5 || rest % 100 > town.there[first] || town.hidden[first] + rest % 100 > 99) return false;
        town.there[first] -= rest % 100;
        town.hidden[first] += rest % 100;
        return true;
      case 'o':
        if (first >= town.ships.size() || !town.ships.get(first).in) return false;
        town.ships.get(first).in = false;
        return true;
      case 'c':
        town.coughs = rest;
        return true;
      default:
        if (rest < 1 || rest > 60 || town.day + rest > 999) return false;
        town.pass(rest);
        return true;
    }
  }

  int good(int good, int what) {
    if (noGood(good)) return no(-1);
    return switch (what) {
      case 0 -> now.there[good];
      case 1 -> now.used[good];
      case 2 -> now.hidden[good];
      case 3 -> now.lack(good);
      default -> no(-2);
    };
  }

  int shipOf(int ship, int what) {
    if (noShip(ship)) return no(-1);
    Ship it = now.ships.get(ship);
    return switch (what) {
      case 0 -> it.kind;
      case 1 -> it.figure;
      case 2 -> it.good;
      case 3 -> it.load;
      case 4 -> it.in ? 1 : 0;
      case 5 -> it.draws();
      case 6 -> it.sinks(now);
      case 7 -> now.depth(ship);
      default -> no(-2);
    };
  }

  int tide(int n) {
    if (n < 0) return no(-4);
    if (n > 60) return no(-6);
    return now.behind(n).tide();
  }

  int ship(int kind, int figure, int good, int load) {
    if (kind < 0 || kind > 5) return no(-2);
    if (figure < 0) return no(-4);
    if (load < 0) return no(-4);
    if (figure > 9 || load > 99 || now.ships.size() == 7) return no(-6);
    if (noGood(good)) return no(-1);
    now.ships.add(Ship.of(kind, figure, good, load));
    past.clear();
    return now.ships.size() - 1;
  }

  private void remember() {
    past.push(now.copy());
    if (past.size() > 8) past.removeLast();
  }

  int hides(int good, int n) {
    if (noGood(good)) return no(-1);
    long there = (long) now.there[good] - n;
    long hidden = (long) now.hidden[good] + n;
    if (there < 0 || there > 99 || hidden < 0 || hidden > 99) return no(-3);
    remember();
    now.there[good] = (int) there;
    now.hidden[good] = (int) hidden;
    return (int) there;
  }

  int uses(int good, int v) {
    if (noGood(good)) return no(-1);
    if (v < 0) return no(-4);
    if (v > 9) return no(-6);
    remember();
    int was = now.used[good];
    now.used[good] = v;
    return was;
  }

  int sends(int ship, int load) {
    if (noShip(ship)) return no(-1);
    if (load < 0) return no(-4);
    if (load > 99) return no(-6);
    if (!now.isIn(ship)) return no(-3);
    remember();
    int was = now.ships.get(ship).load;
    now.ships.get(ship).load = load;
    now.ships.get(ship).in = false;
    return was;
  }

  int days(int n) {
    if (n < 1) return no(-4);
    if (n > 60) return no(-6);
    if (now.day + n > 999) return no(-6);
    remember();
    now.pass(n);
    return Integer.bitCount(now.inBits());
  }

  int back() {
    if (past.isEmpty()) return no(-3);
    now = past.pop();
    return past.size();
  }

  int thereIn(int good, int n) {
    if (noGood(good)) return no(-1);
    if (n < 0) return no(-4);
    if (n > 60) return no(-6);
    return now.behind(n).there[good];
  }

  int then(int n, int what) {
    if (n < 0) return no(-4);
    if (n > 60) return no(-6);
    if (what != 0 && what != 1) return no(-2);
    return what == 0 ? now.behind(n).coughs : now.behind(n).inBits();
  }

  int comes(int ship) {
    if (ship == -1) {
      int first = -9;
      for (int i = 0; i < now.ships.size(); i++) {
        if (now.isIn(i) || now.comes(i) == -9) continue;
        if (first == -9 || now.comes(i) < now.comes(first)) first = i;
      }
      return first;
    }
    return noShip(ship) ? no(-1) : now.comes(ship);
  }

  private boolean isShut(int ship) {
    if (now.isIn(ship)) return false;
    if (now.behind(1).isIn(ship)) return false;
    return now.copy().pass(i -> i == ship).isIn(ship);
  }

  int shut() {
    int bits = 0;
    for (int i = 0; i < now.ships.size(); i++) {
      bits += isShut(i) ? 1 << i : 0;
    }
    return bits;
  }

  int byWhom(int ship) {
    if (noShip(ship)) return no(-1);
    if (!isShut(ship)) return -9;
    for (int i = 0; i < now.ships.size(); i++) {
      int without = i;
      if (now.copy().pass(k -> k != without).isIn(ship)) return i;
    }
    return -9;
  }

  int loaded(int ship, int what) {
    if (noShip(ship)) return no(-1);
    if (what != 0 && what != 1) return no(-2);
    if (now.isIn(ship)) return no(-3);
    for (int n = 1; n <= 60; n++) {
      for (int good = 0; good < 6; good++) {
        Town town = now.copy();
        Ship it = town.ships.get(ship);
        town.ships.set(ship, it.with(it.kind, it.figure, good));
        if (town.pass(n).isIn(ship)) return what == 0 ? good : n;
      }
    }
    return -9;
  }

  int hide(int good, int ship, int n) {
    if (noGood(good) || noShip(ship)) return no(-1);
    if (n < 1) return no(-4);
    if (n > 60) return no(-6);
    for (int many = 0; many <= now.there[good]; many++) {
      if (now.hiding(good, many).pass(n).isIn(ship)) return many;
    }
    return -9;
  }

  int fewest(int ship, int n) {
    if (noShip(ship)) return no(-1);
    if (n < 1) return no(-4);
    if (n > 60) return no(-6);
    int best = -9;
    for (int bits = 0; bits < 64; bits++) {
      Town town = now.copy();
      for (int good = 0; good < 6; good++) {
        if ((bits & 1 << good) != 0) town = town.hiding(good, town.there[good]);
      }
      boolean fewer = best == -9 || Integer.bitCount(bits) < Integer.bitCount(best);
      if (fewer && town.pass(n).isIn(ship)) best = bits;
    }
    return best;
  }

  int forWhat(int ship) {
    if (noShip(ship)) return no(-1);
    if (now.isIn(ship)) return no(-3);
    if (!now.behind(1).isIn(ship)) return 0;
    int bits = 0;
    for (int good = 0; good < 6; good++) {
      Town town = now.copy();
      town.withoutLackOf = good;
      if (!town.pass(1).isIn(ship)) bits |= 1 << good;
    }
    return bits;
  }

  int want(int n) {
    if (n < 0) return no(-4);
    if (n > 60) return no(-6);
    return now.want(n);
  }

  int bare(int what) {
    if (what != 0 && what != 1) return no(-2);
    for (int n = 0; n <= 60; n++) {
      Town town = now.behind(n);
      for (int good = 0; good < 6; good++) {
        if (town.there[good] == 0) return what == 0 ? good : n;
      }
    }
    return -9;
  }

  int lasts(int good) {
    if (noGood(good)) return no(-1);
    for (int n = 0; n < 99; n++) {
      if (now.used[good] > 0 && now.there[good] <= n * now.used[good]) return n;
    }
    return 99;
  }

  int best(int n) {
    if (n < 0) return no(-4);
    if (n > 60) return no(-6);
    int best = -9;
    int most = 0;
    for (int i = 0; i < now.ships.size(); i++) {
      int without = i;
      int more = now.want(n, k -> k != without) - now.want(n);
      if (!now.isIn(i) && more > most) {
        best = i;
        most = more;
      }
    }
    return best;
  }

  int whichTown(int good, int what) {
    if (noGood(good)) return no(-1);
    if (what < 0 || what > 2) return no(-2);
    List<Integer> fits = new ArrayList<>();
    for (int there = 0; there <= 99; there++) {
      Town town = now.copy();
      town.there[good] = there;
      boolean so = true;
      for (int number : row) {
        so &= Integer.bitCount(town.inBits()) == number;
        town.pass(1);
      }
      if (so) fits.add(there);
    }
    if (what == 0) return fits.size();
    if (fits.isEmpty()) return -9;
    return what == 1 ? fits.get(0) : fits.get(fits.size() - 1);
  }

  private boolean depthsAre(Town town, int ship) {
    boolean so = true;
    for (int number : row) {
      so &= town.depth(ship) == number;
      town.pass(1);
    }
    return so;
  }

  int whatKind(int ship, int what) {
    if (noShip(ship)) return no(-1);
    if (what != 0 && what != 1) return no(-2);
    int bits = 0;
    for (int i = 0; i < (what == 0 ? 6 : 10); i++) {
      Town town = now.copy();
      Ship it = town.ships.get(ship);
      town.ships.set(ship, what == 0 ? it.with(i, it.figure, it.good) : it.with(it.kind, i, it.good));
      bits |= depthsAre(town, ship) ? 1 << i : 0;
    }
    return bits;
  }

  private int gain(boolean first, int one, int other, int n, int a, int b) {
    Town town = now;
    if (a == 1) town = town.hiding(one, Math.min(10, town.there[one]));
    if (b == 1) town = town.hiding(other, Math.min(10, town.there[other]));
    Town then = town.behind(n);
    return first ? -then.lack(one) - 5 * a : -then.lack(other) - 5 * b;
  }

  int two(int one, int other, int n) {
    if (noGood(one) || noGood(other) || one == other) return no(-1);
    if (n < 0) return no(-4);
    if (n > 60) return no(-6);
    for (int a = 0; a < 2; a++) {
      for (int b = 0; b < 2; b++) {
        boolean firstStays = gain(true, one, other, n, 1 - a, b) <= gain(true, one, other, n, a, b);
        boolean secondStays = gain(false, one, other, n, a, 1 - b) <= gain(false, one, other, n, a, b);
        if (firstStays && secondStays) return 10 * a + b;
      }
    }
    return -9;
  }

  /** How likely, times t to the power n. */
  private static BigInteger chance(Town town, int ship, int n, int t) {
    if (n == 0) return town.isIn(ship) ? BigInteger.ONE : BigInteger.ZERO;
    BigInteger storm = chance(town.copy().pass(i -> false), ship, n - 1, t);
    BigInteger calm = chance(town.copy().pass(i -> true), ship, n - 1, t);
    return storm.add(calm.multiply(BigInteger.valueOf(t - 1)));
  }

  private static long part(BigInteger above, BigInteger below, int part) {
    BigInteger divisor = above.gcd(below);
    return (part == 0 ? above : below).divide(divisor).longValueExact();
  }

  long storms(int ship, int n, int t, int part) {
    if (noShip(ship)) return noLong(-1);
    if (n < 0 || t < 2) return noLong(-4);
    if (n > 7 || t > 20) return noLong(-6);
    if (part != 0 && part != 1) return noLong(-2);
    return part(chance(now, ship, n, t), BigInteger.valueOf(t).pow(n), part);
  }

  int deepest(int what) {
    int deepest = -9;
    int shortest = 0;
    int plenty = 0;
    int twins = 0;
    for (int i = now.ships.size() - 1; i >= 0; i--) {
      if (deepest == -9 || now.ships.get(i).draws() >= now.ships.get(deepest).draws()) deepest = i;
      for (int k = i + 1; k < now.ships.size(); k++) {
        twins += now.ships.get(i).good == now.ships.get(k).good ? 1 : 0;
      }
    }
    for (int good = 5; good >= 0; good--) {
      if (now.lack(good) >= now.lack(shortest)) shortest = good;
      plenty |= now.there[good] > 7 * now.used[good] ? 1 << good : 0;
    }
    return switch (what) {
      case 0 -> deepest;
      case 1 -> shortest;
      case 2 -> now.lack(shortest);
      case 3 -> plenty;
      case 4 -> twins;
      default -> no(-2);
    };
  }

  long mean(int part) {
    if (part != 0 && part != 1) return noLong(-2);
    if (now.ships.isEmpty()) return part;
    long sum = 0;
    for (Ship ship : now.ships) {
      sum += ship.load;
    }
    return part(BigInteger.valueOf(sum), BigInteger.valueOf(now.ships.size()), part);
  }

  int hidden() {
    int sum = 0;
    for (int many : now.hidden) {
      sum += many;
    }
    return sum;
  }

  int nextTide(int v) {
    if (v < 0) return no(-4);
    if (v > 4) return no(-6);
    int n = 0;
    while (now.behind(n).tide() < v) n++;
    return n;
  }

  int empty() {
    int bits = 0;
    for (int i = 0; i < now.ships.size(); i++) {
      bits |= now.ships.get(i).sinks(now) == 0 ? 1 << i : 0;
    }
    return bits;
  }

  int carried(int good) {
    if (noGood(good)) return no(-1);
    Town bare = now.copy();
    bare.there = new int[6];
    bare.uncapped = true;
    for (Ship ship : bare.ships) {
      if (!ship.in) ship.bring(bare);
    }
    return bare.there[good];
  }

  int filled() {
    Town town = now.copy();
    int many = 0;
    if (town.lack() == 0) return 0;
    for (Ship ship : town.ships) {
      if (ship.in) continue;
      ship.bring(town);
      many++;
      if (town.lack() == 0) return many;
    }
    return -9;
  }

  int spared(int good, int n) {
    if (noGood(good)) return 1000000000 - no(-1);
    if (n < 0) return 1000000000 - no(-4);
    if (n > 60) return 1000000000 - no(-6);
    Town town = now.copy();
    town.more(good, town.hidden[good]);
    town.hidden[good] = 0;
    return now.want(n) - town.want(n);
  }

  int race(int one, int other) {
    if (noShip(one) || noShip(other) || one == other) return no(-1);
    for (int n = 0; n <= 60; n++) {
      Town town = now.behind(n);
      if (town.isIn(Math.min(one, other))) return Math.min(one, other);
      if (town.isIn(Math.max(one, other))) return Math.max(one, other);
    }
    return -9;
  }

  int row(int v) {
    if (v < 0) return no(-4);
    if (v > 99 || row.size() == 12) return no(-6);
    row.add(v);
    return row.size();
  }

  int judge() {
    List<Integer> told = row;
    row = new ArrayList<>();
    for (int i = 0; i < told.size(); i++) {
      if (i >= now.ships.size() || now.depth(i) != told.get(i)) return i;
    }
    return -9;
  }

  int clear() {
    int many = row.size();
    row.clear();
    return many;
  }

  int lots(int n, int z, int what) {
    if (n < 1) return no(-4);
    if (n > 20) return no(-6);
    if (what != 0 && what != 1) return no(-2);
    int sum = 0;
    for (int port = 0; port < n; port++) {
      Town town = now.copy();
      for (int good = 0; good < 6; good++) {
        z = z * 1103515245 + 12345;
        town.there[good] = (z >>> 16 & 0x7fff) % 40;
      }
      town.pass(10);
      sum += what == 0 ? Integer.bitCount(town.inBits()) : town.lack();
    }
    return sum;
  }

  int image() {
    image = now.copy();
    return now.day;
  }

  int restore() {
    if (image == null) return no(-3);
    now = image.copy();
    past.clear();
    return now.day;
  }

  int count(int what) {
    return switch (what) {
      case 0 -> now.ships.size();
      case 1 -> now.day;
      case 2 -> now.coughs;
      case 3 -> now.inBits();
      case 4 -> now.lack();
      case 5 -> letters.length();
      case 6 -> row.size();
      case 7 -> past.size();
      case 11, 12, 13, 14, 15, 16 -> refusals[what - 10];
      default -> -9;
    };
  }
}
