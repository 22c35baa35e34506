import java.util.Objects;

/** Counts the answers of a test program that are not as due, and prints each of them. */
final class Checks {
  /** A call whose exception is looked at. */
  interface Call {
    Object make();
  }

  private int seen = 0;
  private int wrong = 0;

  void due(String what, Object got, Object want) {
    seen++;
    if (!Objects.equals(got, want)) {
      wrong++;
      System.out.println(what + " answered " + got + ", due is " + want);
    }
  }

  /** The call must throw just this class, and leave the kitchen as it was. */
  void refused(String what, Class<? extends RuntimeException> want, PolyKitchen kitchen, Call call) {
    long before = kitchen.digest();
    due(what, outcome(call), "throws." + want.getSimpleName());
    due(what + " leaves the digest", kitchen.digest(), before);
  }

  /** The answer of a call as a text, or the exception's name behind 'throws.'. */
  static String outcome(Call call) {
    try {
      return String.valueOf(call.make());
    } catch (RuntimeException thrown) {
      return "throws." + thrown.getClass().getSimpleName();
    }
  }

  int wrong() {
    return wrong;
  }

  void end(String name) {
    System.out.println(name + ": " + seen + " answers, " + wrong + " not as due");
    if (wrong != 0) {
      System.exit(1);
    }
  }
}
