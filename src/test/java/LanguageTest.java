import java.io.IOException;
import java.nio.file.Files;
import java.nio.file.Path;
import java.util.Map;
import java.util.Set;
import java.util.TreeMap;
import java.util.TreeSet;
import java.util.regex.Matcher;
import java.util.regex.Pattern;

/**
 * What of LANGUAGE.md can be read off the text of the class, which is indented by two; the rule's number stands in front.
 * Runs in the project's directory.
 */
final class LanguageTest {
  private static final Path CLASS = Path.of("src/main/java/TakesWhatItLacks.java");
  private static final Set<String> LIBRARY = Set.of("Math.min", "Math.max", "Math.abs", "Math.floorMod", "Integer.bitCount");
  /** Words for which the class has no use, though LANGUAGE.md would allow some of them. */
  private static final Set<String> NO_WORDS = Set.of("package", "import", "throw", "throws", "try", "catch", "finally",
      "synchronized", "assert", "instanceof", "native", "strictfp", "volatile", "transient", "equals", "hashCode", "toString",
      "Object", "Thread", "System");
  private static final Pattern HEAD = Pattern.compile("( {2}| {4})((?:(?:public|private|static) )*)([\\w\\[\\]]+ )?(\\w+)\\((.*)\\) \\{");
  private static final Due due = new Due();

  private static final class Method {
    final String name;
    final boolean isPublic;
    final boolean isConstructor;
    final int parameters;
    final StringBuilder body = new StringBuilder();
    int lines = 1;

    Method(Matcher head) {
      name = head.group(4);
      isPublic = head.group(2).contains("public");
      isConstructor = head.group(3) == null;
      parameters = head.group(5).isEmpty() ? 0 : head.group(5).split(",").length;
    }
  }

  /** One method a name: where two classes have one of the same name, what both call is what it calls. */
  private static final Map<String, Method> methods = new TreeMap<>();

  private static String code(String text) {
    return text.replaceAll("(?s)/\\*.*?\\*/", "").replaceAll("//[^\n]*", "").replaceAll("'(\\\\.|[^'])'", "' '");
  }

  private static void read(String code) {
    Method open = null;
    String end = "";
    for (String line : code.split("\n")) {
      Matcher head = HEAD.matcher(line);
      if (open == null) {
        boolean isHead = head.matches();
        due.is("a method's head fills its line: " + line, 1, isHead || !line.contains(") {") ? 1 : 0);
        if (isHead) {
          open = new Method(head);
          end = head.group(1) + "}";
        }
      } else {
        open.lines++;
        open.body.append(line).append('\n');
        if (line.equals(end)) {
          add(open);
          open = null;
        }
      }
    }
    due.is("every method has been read to its end", 1, open == null ? 1 : 0);
  }

  private static void add(Method method) {
    due.is("11: lines of " + method.name + " at most sixty", 1, method.lines <= 60 ? 1 : 0);
    due.is("11: parameters of " + method.name + " at most seven", 1, method.parameters <= 7 ? 1 : 0);
    due.is("12: " + method.name + " makes nothing in a call", 0,
        !method.isConstructor && method.body.indexOf("new ") >= 0 ? 1 : 0);
    if (methods.containsKey(method.name)) {
      Method other = methods.get(method.name);
      due.is("1: no other bears the public name " + method.name, 0, method.isPublic || other.isPublic ? 1 : 0);
      other.body.append(method.body);
    } else if (!method.isConstructor) {
      methods.put(method.name, method);
    }
  }

  private static Set<String> calledBy(Method method) {
    Set<String> called = new TreeSet<>();
    Matcher word = Pattern.compile("\\b(\\w+)\\(").matcher(method.body);
    while (word.find()) {
      if (methods.containsKey(word.group(1))) {
        called.add(word.group(1));
      }
    }
    return called;
  }

  /** How many calls stand open at once, this one's among them. */
  private static int depth(String name, int above) {
    int deepest = 0;
    if (above < 50) {
      for (String called : calledBy(methods.get(name))) {
        deepest = Math.max(deepest, depth(called, above + 1));
      }
    }
    return deepest + 1;
  }

  private static void words(String code) {
    Matcher library = Pattern.compile("\\b([A-Z]\\w*[a-z]\\w*\\.\\w+)").matcher(code);
    while (library.find()) {
      due.is("4: of the library " + library.group(1), 1, LIBRARY.contains(library.group(1)) ? 1 : 0);
    }
    Matcher word = Pattern.compile("\\b[A-Za-z]+\\b").matcher(code);
    while (word.find()) {
      due.is("no " + word.group(), 0, NO_WORDS.contains(word.group()) ? 1 : 0);
    }
    due.is("2: no lambda, no method reference", 0, code.contains("->") || code.contains("::") ? 1 : 0);
    due.is("5: no static initialiser", 0, code.contains("static {") ? 1 : 0);
    due.is("10: no texts", 0, code.contains("\"") ? 1 : 0);
  }

  public static void main(String[] args) throws IOException {
    String text = Files.readString(CLASS);
    due.is("3: signs 1 to 127", 1, text.chars().allMatch(sign -> sign >= 1 && sign <= 127) ? 1 : 0);
    String code = code(text);
    words(code);
    read(code);
    due.is("methods were found, the face's 44 and more", 1, methods.size() > 44 ? 1 : 0);
    for (Method method : methods.values()) {
      due.is("11: calls from " + method.name + " on at most eight deep", 1, depth(method.name, 0) <= 8 ? 1 : 0);
    }
    due.end("LanguageTest");
  }
}
