import java.lang.reflect.Method;
import java.util.ArrayList;
import java.util.List;

/** Runs of up to 512 calls, the same ones on the class and on the Model, whose answers must be one. */
final class ModelTest {
  private static final int OBJECTS = 300;
  private static final int CALLS = 512;
  private static final int TOWNS_AN_OBJECT = 3;

  /** A call and what its numbers are: see number(). */
  private static final String[] CALLS_OF_FACE = {
    "feed L", "harbour", "good g4", "shipOf s8", "tide n", "ship kfgl", "hides gh", "uses gf", "sends sl", "days d",
    "back", "thereIn gn", "then n2", "comes c", "shut", "byWhom s", "loaded s2", "hide gsd", "fewest sd", "forWhat s",
    "want n", "bare 2", "lasts g", "best n", "whichTown g3", "whatKind s2", "two ggn", "storms stT2", "deepest 5",
    "mean 2", "hidden", "nextTide v", "empty", "carried g", "filled", "spared gn", "race ss", "row l", "judge",
    "clear", "lots pz2", "image", "restore", "count w",
  };

  private static final String TEXT = "stuhocd0123456789;";
  private static final int[] WILD = {-1, -2, 6, 7, 10, 11, 99, 100, 60, 61, 999, 1000, -100, 12345678,
    Integer.MAX_VALUE, Integer.MIN_VALUE, Integer.MIN_VALUE + 1, 256, 255, 96, 21, 20, 8, 0, 1};

  private final Due due = new Due();
  private final Method[] ours = new Method[CALLS_OF_FACE.length];
  private final Method[] models = new Method[CALLS_OF_FACE.length];
  private TakesWhatItLacks x;
  private Model model;
  private int seed;
  private int object;
  private int made;
  private final List<String> run = new ArrayList<>();

  private ModelTest() throws Exception {
    for (int i = 0; i < CALLS_OF_FACE.length; i++) {
      String name = CALLS_OF_FACE[i].split(" ")[0];
      Class<?>[] types = new Class<?>[numbersOf(i).length()];
      java.util.Arrays.fill(types, int.class);
      ours[i] = TakesWhatItLacks.class.getMethod(name, types);
      models[i] = Model.class.getDeclaredMethod(name, types);
    }
  }

  private static String numbersOf(int call) {
    String[] parts = CALLS_OF_FACE[call].split(" ");
    return parts.length == 1 ? "" : parts[1];
  }

  private int below(int n) {
    seed = seed * 1664525 + 1013904223;
    return (int) ((seed & 0xffffffffL) * n >> 32);
  }

  private int number(char kind) {
    if (below(40) == 0) {
      return WILD[below(WILD.length)];
    }
    switch (kind) {
      case 'L': return TEXT.charAt(below(TEXT.length()));
      case 'g': return below(6);
      case 's': return below(Math.max(1, model.count(0)));
      case 'c': return below(8) - 1;
      case 'k': return below(6);
      case 'f': return below(10);
      case 'l': return below(100);
      case 'n': return below(61);
      case 'd': return 1 + below(below(2) == 0 ? 8 : 60);
      case 'h': return below(61) - 30;
      case 't': return below(8);
      case 'T': return 2 + below(19);
      case 'v': return below(5);
      case 'p': return 1 + below(5);
      case 'z': return seed;
      case 'w': return below(18);
      default: return below(kind - '0');
    }
  }

  private long call(int which, Object... numbers) throws Exception {
    made++;
    StringBuilder told = new StringBuilder(ours[which].getName()).append(java.util.Arrays.toString(numbers));
    run.add(told.toString());
    long got = ((Number) ours[which].invoke(x, numbers)).longValue();
    long want = ((Number) models[which].invoke(model, numbers)).longValue();
    due.is("object " + object + ", call " + made + ", " + told, want, got);
    return got;
  }

  private void call(String name, Object... numbers) throws Exception {
    for (int i = 0; i < CALLS_OF_FACE.length; i++) {
      if (CALLS_OF_FACE[i].split(" ")[0].equals(name)) {
        call(i, numbers);
        return;
      }
    }
    throw new IllegalArgumentException(name);
  }

  private void anyCall() throws Exception {
    int which = below(CALLS_OF_FACE.length);
    String kinds = numbersOf(which);
    Object[] numbers = new Object[kinds.length()];
    for (int i = 0; i < numbers.length; i++) {
      numbers[i] = number(kinds.charAt(i));
    }
    call(which, numbers);
  }

  private String digits(int n, int most) {
    int number = below(30) == 0 ? below(n == 1 ? 10 : 100) : below(most + 1);
    return n == 1 ? "" + number : "" + number / 10 + number % 10;
  }

  private String statement() {
    switch (below(10)) {
      case 0: return "t" + digits(1, 5) + digits(2, 99) + ";";
      case 1: return "u" + digits(1, 5) + digits(1, 9) + ";";
      case 2: return "h" + digits(1, 5) + digits(2, 20) + ";";
      case 3: return "o" + digits(1, 6) + ";";
      case 4: return "c" + digits(2, 99) + ";";
      case 5: return "d" + digits(2, 9) + ";";
      default: return "s" + digits(1, 5) + digits(1, 9) + digits(1, 5) + digits(2, 99) + ";";
    }
  }

  private void tellHarbour() throws Exception {
    StringBuilder text = new StringBuilder();
    for (int i = 1 + below(4); i > 0; i--) {
      text.append(statement());
    }
    if (below(12) == 0) {
      text.setCharAt(below(text.length()), TEXT.charAt(below(TEXT.length())));
    }
    if (below(12) == 0) {
      text.setLength(below(text.length()));
    }
    for (int i = 0; i < text.length(); i++) {
      call("feed", (int) text.charAt(i));
    }
    call("harbour");
  }

  /** What is or will be so goes into the ROW, for a chance number is next to never so. */
  private void tellTruth() throws Exception {
    call("clear");
    int ships = model.count(0);
    if (ships == 0) {
      return;
    }
    int about = below(3);
    int ship = below(ships);
    int length = about == 2 ? ships : 1 + below(6);
    for (int i = 0; i < length; i++) {
      int truth = about == 0 ? Integer.bitCount(model.then(i, 1)) : model.shipOf(about == 1 ? ship : i, 7);
      call("row", below(40) == 0 ? below(20) : truth);
    }
    if (about == 0) {
      call("whichTown", below(6), below(3));
    } else if (about == 1) {
      call("whatKind", ship, below(2));
    } else {
      call("judge");
    }
  }

  /** A town long looked at has starved and all its SHIPS are IN: this brings life back. */
  private void freshen() throws Exception {
    StringBuilder text = new StringBuilder();
    for (int good = 0; good < 6; good++) {
      text.append('t').append(good).append(digits(2, 70)).append(';');
      text.append('u').append(good).append(digits(1, below(2) == 0 ? 9 : 3)).append(';');
    }
    call("clear");
    while (model.count(5) > 0) {
      call("harbour");
    }
    for (int i = 0; i < text.length(); i++) {
      call("feed", (int) text.charAt(i));
    }
    call("harbour");
    for (int ship = 0; ship < model.count(0); ship++) {
      if (below(5) != 0) {
        call("sends", ship, below(100));
      }
    }
  }

  private void begin(int which) {
    object = which;
    seed = which * 7919 + 17;
    made = 0;
    x = new TakesWhatItLacks();
    model = new Model();
    run.clear();
  }

  /** A town of which all SHIPS are OUT still, and a few questions: in a long run such towns are rare. */
  private void freshTown(int which) throws Exception {
    begin(which);
    for (int ships = 2 + below(6); ships > 0; ships--) {
      call("ship", below(6), below(10), below(below(2) == 0 ? 6 : 2), below(100));
    }
    freshen();
    for (int good = 0; good < 6; good++) {
      call("hides", good, below(30));
    }
    call("days", 1 + below(8));
    for (int i = 0; i < 60; i++) {
      if (below(20) == 0) {
        tellTruth();
      } else {
        anyCall();
      }
    }
  }

  private void oneObject(int which) throws Exception {
    begin(which);
    int before = below(30);
    for (int i = 0; i < before; i++) {
      anyCall();
    }
    while (made < CALLS - 80) {
      switch (below(60)) {
        case 0: freshen(); break;
        case 1: tellHarbour(); break;
        case 2: tellHarbour(); break;
        case 3: tellTruth(); break;
        case 4: tellTruth(); break;
        default: anyCall(); break;
      }
    }
  }

  public static void main(String[] args) throws Exception {
    ModelTest test = new ModelTest();
    int objects = args.length == 0 ? OBJECTS : Integer.parseInt(args[0]);
    for (int i = 0; i < objects && !test.due.isWrong(); i++) {
      test.oneObject(i);
      for (int k = 0; k < TOWNS_AN_OBJECT && !test.due.isWrong(); k++) {
        test.freshTown(1000003 + i * TOWNS_AN_OBJECT + k);
      }
    }
    if (test.due.isWrong()) {
      System.out.println("the run: " + test.run);
    }
    test.due.end("ModelTest");
  }
}
