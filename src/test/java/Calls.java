import java.lang.reflect.InvocationTargetException;
import java.lang.reflect.Method;
import java.util.Arrays;
import java.util.HashMap;
import java.util.Map;
import java.util.stream.Collectors;

/** The calls of the document's face by their names, made on the program or on the model alike. */
final class Calls {
  /**
   * Each call and what its arguments are: r a recipe, p a power, a an amount, f a factor, s guests
   * to shift by, g any guests, u guests to add up to, t a place in a text.
   */
  static final String[] FACE = {
    "addRecipe", "set rpa", "drop r", "scale rf", "shift rs",
    "sum rr", "difference rr", "product rr", "chain rr", "derive r", "divide rr",
    "recipes", "amountOf rp", "degreeOf r", "isPlain r", "content r", "signChanges r",
    "hunger rg", "idleGuests r", "firstIdle r", "agreeAt rr", "cheapest r", "hungerUpTo ru",
    "textLength r", "textAt rt",
    "isPartOf rr", "plainParts r", "bestShift r", "meanDegree", "digest"
  };

  private static final int POWERS = 9;
  private static final int BASE = 1000;
  private static final int MOST_DIGITS = 4;
  private static final Map<String, Method> METHODS = new HashMap<>();

  private Calls() {}

  static String name(String call) {
    return call.split(" ")[0];
  }

  /** The letters of a call's arguments. */
  static String letters(String call) {
    int space = call.indexOf(' ');
    return space < 0 ? "" : call.substring(space + 1);
  }

  /** A method as the document's face has it, but for its arguments' names. */
  static String described(Method method) {
    return method.getReturnType() + " " + method.getName() + "("
        + names(method.getParameterTypes()) + ") " + names(method.getExceptionTypes());
  }

  /** The answer as a text, or the exception's name behind 'throws.'. */
  static String outcome(Object target, String name, int... arguments) {
    Object[] boxed = new Object[arguments.length];
    for (int place = 0; place < boxed.length; place++) {
      boxed[place] = arguments[place];
    }
    try {
      return String.valueOf(method(target, name, boxed.length).invoke(target, boxed));
    } catch (InvocationTargetException thrown) {
      return "throws." + thrown.getCause().getClass().getSimpleName();
    } catch (IllegalAccessException unseen) {
      throw new AssertionError(unseen);
    }
  }

  /** All recipes with their amounts, the power 0 first. */
  static String state(Object target) {
    StringBuilder all = new StringBuilder();
    int recipes = number(target, "recipes");
    for (int recipe = 0; recipe < recipes; recipe++) {
      for (int power = 0; power < POWERS; power++) {
        all.append(outcome(target, "amountOf", recipe, power)).append(' ');
      }
      all.append("; ");
    }
    return all.toString();
  }

  /** Adds recipes with these amounts, the power 0 first; those that are not named are 0. */
  static <T> T build(T target, int[]... rows) {
    for (int[] row : rows) {
      int recipe = number(target, "addRecipe");
      int digits = digits(row);
      put(target, recipe, row, digits - 1);
      for (int digit = digits - 2; digit >= 0; digit--) {
        appendDigits(target, recipe, row, digit);
      }
    }
    return target;
  }

  // ---- helpers

  private static String names(Class<?>[] types) {
    return Arrays.stream(types).map(Class::getSimpleName).collect(Collectors.joining(", "));
  }

  /** An amount that set refuses is made of smaller ones: times 1000, and the next three digits. */
  private static void appendDigits(Object target, int recipe, int[] row, int digit) {
    number(target, "scale", recipe, BASE);
    int next = number(target, "addRecipe");
    put(target, next, row, digit);
    number(target, "sum", recipe, next);
    number(target, "drop", next);
    number(target, "drop", recipe);
  }

  private static void put(Object target, int recipe, int[] row, int digit) {
    for (int power = 0; power < row.length; power++) {
      int amount = row[power];
      for (int less = 0; less < digit; less++) {
        amount /= BASE;
      }
      if (amount % BASE != 0) {
        number(target, "set", recipe, power, amount % BASE);
      }
    }
  }

  private static int digits(int[] row) {
    int digits = 1;
    for (int amount : row) {
      int needed = 1;
      for (int left = amount / BASE; left != 0 && needed < MOST_DIGITS; left /= BASE) {
        needed++;
      }
      digits = Math.max(digits, needed);
    }
    return digits;
  }

  private static int number(Object target, String name, int... arguments) {
    String outcome = outcome(target, name, arguments);
    if (outcome.startsWith("throws.")) {
      throw new AssertionError(name + " of a test's kitchen " + outcome);
    }
    return Integer.parseInt(outcome);
  }

  private static Method method(Object target, String name, int arguments) {
    return METHODS.computeIfAbsent(target.getClass().getName() + " " + name, key -> {
      for (Method method : target.getClass().getDeclaredMethods()) {
        if (method.getName().equals(name) && method.getParameterCount() == arguments) {
          return method;
        }
      }
      throw new AssertionError("there is no " + key);
    });
  }
}
