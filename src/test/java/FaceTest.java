import java.lang.reflect.Constructor;
import java.lang.reflect.Field;
import java.lang.reflect.Method;
import java.lang.reflect.Modifier;
import java.util.Set;
import java.util.TreeSet;

/** The class has the document's face, that alone, and keeps no static state. */
final class FaceTest {
  private static final String[] FACE = {
    "int feed 1", "int harbour 0", "int good 2", "int shipOf 2", "int tide 1", "int ship 4", "int hides 2", "int uses 2",
    "int sends 2", "int days 1", "int back 0", "int thereIn 2", "int then 2", "int comes 1", "int shut 0", "int byWhom 1",
    "int loaded 2", "int hide 3", "int fewest 2", "int forWhat 1", "int want 1", "int bare 1", "int lasts 1", "int best 1",
    "int whichTown 2", "int whatKind 2", "int two 3", "long storms 4", "int deepest 1", "long mean 1", "int hidden 0",
    "int nextTide 1", "int empty 0", "int carried 1", "int filled 0", "int spared 2", "int race 2", "int row 1",
    "int judge 0", "int clear 0", "int lots 3", "int image 0", "int restore 0", "int count 1",
  };
  private static final Due due = new Due();

  private static Set<String> names() {
    Set<String> names = new TreeSet<>();
    for (String call : FACE) {
      names.add(call.split(" ")[1]);
    }
    return names;
  }

  private static boolean takesIntsAlone(Method method) {
    for (Class<?> type : method.getParameterTypes()) {
      if (type != int.class) {
        return false;
      }
    }
    return true;
  }

  private static void methods() {
    Set<String> want = new TreeSet<>(Set.of(FACE));
    Set<String> names = names();
    Set<String> found = new TreeSet<>();
    for (Method method : TakesWhatItLacks.class.getDeclaredMethods()) {
      if (Modifier.isPublic(method.getModifiers())) {
        found.add(method.getReturnType() + " " + method.getName() + " " + method.getParameterCount());
        due.is(method + " throws nothing", 0, method.getExceptionTypes().length);
        due.is(method + " is of an object", 0, method.getModifiers() & Modifier.STATIC);
        due.is(method + " takes ints alone", 1, takesIntsAlone(method) ? 1 : 0);
      } else {
        due.is(method + " is private", 1, Modifier.isPrivate(method.getModifiers()) ? 1 : 0);
        due.is(method + " has no name of the face", 0, names.contains(method.getName()) ? 1 : 0);
      }
      due.is(method + " has at most seven parameters", 1, method.getParameterCount() <= 7 ? 1 : 0);
    }
    due.is("the face " + found, 1, found.equals(want) ? 1 : 0);
  }

  private static void constructors() {
    Constructor<?>[] constructors = TakesWhatItLacks.class.getDeclaredConstructors();
    due.is("constructors", 1, constructors.length);
    due.is("it is public", 1, Modifier.isPublic(constructors[0].getModifiers()) ? 1 : 0);
    due.is("it takes nothing", 0, constructors[0].getParameterCount());
    due.is("the class is final", 1, Modifier.isFinal(TakesWhatItLacks.class.getModifiers()) ? 1 : 0);
  }

  private static void fields(Class<?> in) {
    int own = 0;
    for (Field field : in.getDeclaredFields()) {
      if (Modifier.isStatic(field.getModifiers())) {
        due.is(field + " is final", 1, Modifier.isFinal(field.getModifiers()) ? 1 : 0);
      } else {
        own++;
      }
      due.is(field + " is hidden", 0, field.isEnumConstant() ? 0 : field.getModifiers() & Modifier.PUBLIC);
      due.is(field + " of the face is private", 1,
          in != TakesWhatItLacks.class || Modifier.isPrivate(field.getModifiers()) ? 1 : 0);
    }
    due.is(in + " has at most twenty fields", 1, own <= 20 ? 1 : 0);
  }

  public static void main(String[] args) {
    methods();
    constructors();
    fields(TakesWhatItLacks.class);
    for (Class<?> inside : TakesWhatItLacks.class.getDeclaredClasses()) {
      due.is(inside + " is static", 1, Modifier.isStatic(inside.getModifiers()) ? 1 : 0);
      due.is(inside + " is not public", 0, inside.getModifiers() & Modifier.PUBLIC);
      fields(inside);
    }
    due.is("at most twelve classes", 1, TakesWhatItLacks.class.getDeclaredClasses().length < 12 ? 1 : 0);
    due.end("FaceTest");
  }
}
