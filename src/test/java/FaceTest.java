import java.io.IOException;
import java.lang.reflect.Constructor;
import java.lang.reflect.Field;
import java.lang.reflect.Method;
import java.lang.reflect.Modifier;
import java.nio.file.Files;
import java.nio.file.Path;
import java.util.Arrays;
import java.util.Set;
import java.util.TreeSet;
import java.util.regex.Pattern;

/** The document's public face, and those rules of LANGUAGE.md that can be seen from outside. */
public final class FaceTest {
  private static final Path SOURCE = Path.of("src/main/java/PolyKitchen.java");
  private static final String INDEX = "IndexOutOfBoundsException";
  private static final String ARGUMENT = "IllegalArgumentException";
  private static final String STATE = "IllegalStateException";

  private static final String[] FACE = {
    "int addRecipe() " + STATE,
    "int set(int, int, int) " + INDEX + ", " + ARGUMENT,
    "int drop(int) " + INDEX,
    "int scale(int, int) " + INDEX,
    "int shift(int, int) " + INDEX + ", " + ARGUMENT,
    "int sum(int, int) " + INDEX + ", " + STATE,
    "int difference(int, int) " + INDEX + ", " + STATE,
    "int product(int, int) " + INDEX + ", " + ARGUMENT + ", " + STATE,
    "int chain(int, int) " + INDEX + ", " + ARGUMENT + ", " + STATE,
    "int derive(int) " + INDEX + ", " + STATE,
    "int divide(int, int) " + INDEX + ", " + ARGUMENT + ", " + STATE,
    "int recipes() ",
    "int amountOf(int, int) " + INDEX,
    "int degreeOf(int) " + INDEX,
    "boolean isPlain(int) " + INDEX,
    "long content(int) " + INDEX,
    "int signChanges(int) " + INDEX,
    "int hunger(int, int) " + INDEX,
    "int idleGuests(int) " + INDEX,
    "int firstIdle(int) " + INDEX,
    "int agreeAt(int, int) " + INDEX,
    "int cheapest(int) " + INDEX,
    "long hungerUpTo(int, int) " + INDEX + ", " + ARGUMENT,
    "int textLength(int) " + INDEX,
    "int textAt(int, int) " + INDEX,
    "boolean isPartOf(int, int) " + INDEX,
    "int plainParts(int) " + INDEX,
    "int bestShift(int) " + INDEX,
    "double meanDegree() ",
    "long digest() ",
  };

  /** What the rules 2, 4, 6, 10 and 13 leave out, as it would stand in the source. */
  private static final String[] FORBIDDEN = {
    "\\bimport\\b", "\\bpackage\\b", "->", "::", "\\btry\\b", "\\bcatch\\b", "\\bfinally\\b",
    "\\bassert\\b", "\\bsynchronized\\b", "\\bnull\\b", "\\bSystem\\b", "\"\\s*\\+", "\\+\\s*\"",
    "[^\\x09\\x0a\\x20-\\x7e]"
  };

  private static final Checks CHECKS = new Checks();

  private FaceTest() {}

  public static void main(String[] args) throws IOException {
    publicMembers();
    everythingElseIsPrivate();
    source();
    CHECKS.end("FaceTest");
  }

  private static void publicMembers() {
    CHECKS.due("modifiers", PolyKitchen.class.getModifiers(), Modifier.PUBLIC | Modifier.FINAL);
    Constructor<?>[] constructors = PolyKitchen.class.getDeclaredConstructors();
    CHECKS.due("constructors", constructors.length, 1);
    CHECKS.due("the constructor", constructors[0].toString(), "public PolyKitchen()");
    Set<String> found = new TreeSet<>();
    for (Method method : PolyKitchen.class.getDeclaredMethods()) {
      if (Modifier.isPublic(method.getModifiers())) {
        found.add(Calls.described(method));
      }
    }
    CHECKS.due("the face", found, new TreeSet<>(Arrays.asList(FACE)));
  }

  private static void everythingElseIsPrivate() {
    Set<String> names = new TreeSet<>();
    for (String call : FACE) {
      names.add(call.substring(call.indexOf(' ') + 1, call.indexOf('(')));
    }
    for (Method method : PolyKitchen.class.getDeclaredMethods()) {
      if (!Modifier.isPublic(method.getModifiers()) && !method.isSynthetic()) {
        CHECKS.due(method + " is private", Modifier.isPrivate(method.getModifiers()), true);
        CHECKS.due(method + " has a public one's name", names.contains(method.getName()), false);
      }
    }
    for (Field field : PolyKitchen.class.getDeclaredFields()) {
      CHECKS.due(field + " is private", Modifier.isPrivate(field.getModifiers()), true);
      if (Modifier.isStatic(field.getModifiers())) {
        CHECKS.due(field + " is final", Modifier.isFinal(field.getModifiers()), true);
      }
    }
  }

  private static void source() throws IOException {
    String code = withoutComments(Files.readString(SOURCE));
    for (String sign : FORBIDDEN) {
      CHECKS.due("the source has " + sign, Pattern.compile(sign).matcher(code).find(), false);
    }
  }

  private static String withoutComments(String text) {
    return text.replaceAll("(?s)/\\*.*?\\*/", "").replaceAll("//[^\n]*", "");
  }
}
