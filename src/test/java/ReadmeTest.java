import java.io.IOException;
import java.io.StringWriter;
import java.lang.reflect.Method;
import java.lang.reflect.Modifier;
import java.net.URI;
import java.net.URL;
import java.net.URLClassLoader;
import java.nio.file.Files;
import java.nio.file.Path;
import java.util.ArrayList;
import java.util.List;
import java.util.regex.Matcher;
import java.util.regex.Pattern;
import java.util.stream.Stream;
import javax.tools.JavaFileObject;
import javax.tools.SimpleJavaFileObject;
import javax.tools.ToolProvider;

/** What README.md says of the use of the class is what happens when one does it. Runs in the project's directory. */
final class ReadmeTest {
  private static final Pattern BLOCK = Pattern.compile("(?ms)^```java$(.*?)^```$");
  private static final Pattern ANSWERED = Pattern.compile("(\\w+\\.\\w+\\(.*\\)); *// (-?\\d+): .*");
  private static final Pattern CALLED = Pattern.compile("\\w+\\.\\w+\\(.*\\);.*");
  private static final Path TESTS = Path.of("src/test/java");
  private static final Due due = new Due();

  private final List<String> calls = new ArrayList<>();
  private final List<Long> answers = new ArrayList<>();

  /** README's lines as a program that gives all answers, in their order. */
  private String program(String readme) {
    StringBuilder program = new StringBuilder("public final class Readme {\n");
    program.append("public static void run(java.util.List<Long> allAnswers) {\n");
    Matcher block = BLOCK.matcher(readme);
    while (block.find()) {
      for (String line : block.group(1).split("\n")) {
        Matcher answered = ANSWERED.matcher(line);
        if (answered.matches()) {
          calls.add(answered.group(1));
          answers.add(Long.parseLong(answered.group(2)));
          program.append("allAnswers.add((long) ").append(answered.group(1)).append(");\n");
        } else {
          due.is("README has an answer and why behind " + line, 0, CALLED.matcher(line).matches() ? 1 : 0);
          program.append(line).append('\n');
        }
      }
    }
    return program.append("} }\n").toString();
  }

  private static boolean compile(String text, Path folder) {
    JavaFileObject source = new SimpleJavaFileObject(URI.create("string:///Readme.java"), JavaFileObject.Kind.SOURCE) {
      @Override public CharSequence getCharContent(boolean ignoreErrors) {
        return text;
      }
    };
    StringWriter told = new StringWriter();
    List<String> options = List.of("-d", folder.toString(), "-cp", System.getProperty("java.class.path"));
    boolean isDone = ToolProvider.getSystemJavaCompiler().getTask(told, null, null, options, null, List.of(source)).call();
    due.is("README's lines compile: " + told, 1, isDone ? 1 : 0);
    return isDone;
  }

  private static List<Long> run(Path folder) throws IOException, ReflectiveOperationException {
    List<Long> told = new ArrayList<>();
    try (URLClassLoader loader = new URLClassLoader(new URL[] {folder.toUri().toURL()})) {
      loader.loadClass("Readme").getMethod("run", List.class).invoke(null, told);
    }
    return told;
  }

  private void asItSays(String readme) throws IOException, ReflectiveOperationException {
    Path folder = Files.createTempDirectory("readme");
    if (compile(program(readme), folder)) {
      List<Long> told = run(folder);
      due.is("README has answers", 1, told.isEmpty() ? 0 : 1);
      for (int i = 0; i < told.size(); i++) {
        due.is("README: " + calls.get(i), answers.get(i), told.get(i));
      }
    }
    Files.deleteIfExists(folder.resolve("Readme.class"));
    Files.deleteIfExists(folder);
  }

  private static void names(String readme, String name) {
    due.is("README names " + name, 1, readme.contains("`" + name + "`") ? 1 : 0);
  }

  /** Each call of the face and each test is named, and no test that is not there. */
  private static void namesAll(String readme) throws IOException {
    for (Method method : TakesWhatItLacks.class.getDeclaredMethods()) {
      if (Modifier.isPublic(method.getModifiers())) {
        names(readme, method.getName());
      }
    }
    try (Stream<Path> files = Files.list(TESTS)) {
      files.map(file -> file.getFileName().toString()).filter(file -> file.endsWith("Test.java"))
          .forEach(file -> names(readme, file.replace(".java", "")));
    }
    Matcher named = Pattern.compile("`(\\w+Test)`").matcher(readme);
    while (named.find()) {
      due.is("there is a " + named.group(1), 1, Files.exists(TESTS.resolve(named.group(1) + ".java")) ? 1 : 0);
    }
  }

  public static void main(String[] args) throws IOException, ReflectiveOperationException {
    String readme = Files.readString(Path.of("README.md"));
    new ReadmeTest().asItSays(readme);
    namesAll(readme);
    due.end("ReadmeTest");
  }
}
