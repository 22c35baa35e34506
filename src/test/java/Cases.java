/** What the tests of single cases share: their counts, and kitchens with given recipes. */
abstract class Cases {
  static final Class<IndexOutOfBoundsException> INDEX = IndexOutOfBoundsException.class;
  static final Class<IllegalArgumentException> ARGUMENT = IllegalArgumentException.class;
  static final Class<IllegalStateException> STATE = IllegalStateException.class;
  static final int LEAST = Integer.MIN_VALUE;
  static final int GREATEST = Integer.MAX_VALUE;
  static final int POWERS = 9;
  static final int MOST_RECIPES = 16;

  private static final Checks CHECKS = new Checks();

  /** Makes a kitchen, the same one each time. */
  interface Maker {
    PolyKitchen make();
  }

  /** A call on a kitchen. */
  interface Attempt {
    Object on(PolyKitchen kitchen);
  }

  /** A call on one recipe, by its number. */
  interface OneRecipe {
    Object of(PolyKitchen kitchen, int recipe);
  }

  /** A call on two recipes, by their numbers. */
  interface TwoRecipes {
    Object of(PolyKitchen kitchen, int one, int other);
  }

  static void end(String name) {
    CHECKS.end(name);
  }

  static void due(String what, Object got, Object want) {
    CHECKS.due(what, got, want);
  }

  /** The call must throw just this class, and leave the kitchen as it was. */
  static void refused(
      String what, Class<? extends RuntimeException> want, PolyKitchen kitchen, Checks.Call call) {
    CHECKS.refused(what, want, kitchen, call);
  }

  /**
   * The call must throw just this class, twice, and leave the kitchen like one that never saw it,
   * also in the place of the next recipe.
   */
  static void refused(
      String what, Class<? extends RuntimeException> want, Maker maker, Attempt call) {
    PolyKitchen untouched = maker.make();
    PolyKitchen kitchen = maker.make();
    String outcome = "throws." + want.getSimpleName();
    due(what, Checks.outcome(() -> call.on(kitchen)), outcome);
    due(what + ", again", Checks.outcome(() -> call.on(kitchen)), outcome);
    due(what + " changes nothing", Calls.state(kitchen), Calls.state(untouched));
    due(what + " leaves the digest", kitchen.digest(), untouched.digest());
    String next = Calls.outcome(untouched, "addRecipe");
    due(what + ", the next recipe", Calls.outcome(kitchen, "addRecipe"), next);
    due(what + ", what it holds", Calls.state(kitchen), Calls.state(untouched));
  }

  /** The call must not throw. */
  static void taken(String what, Maker maker, Attempt call) {
    PolyKitchen kitchen = maker.make();
    String outcome = Checks.outcome(() -> call.on(kitchen));
    due(what + " answered " + outcome + ", is refused", outcome.startsWith("throws."), false);
  }

  /** The answer is due, and the kitchen is as before. */
  static void asked(String what, Maker maker, Attempt call, Object want) {
    PolyKitchen kitchen = maker.make();
    due(what, Checks.outcome(() -> call.on(kitchen)), String.valueOf(want));
    due(what + " changes nothing", Calls.state(kitchen), Calls.state(maker.make()));
  }

  /** The amounts of a recipe, the power 0 first; those that are not named are 0. */
  static void amounts(String what, PolyKitchen kitchen, int recipe, int... want) {
    for (int power = 0; power < POWERS; power++) {
      int amount = power < want.length ? want[power] : 0;
      due(what + ", power " + power, kitchen.amountOf(recipe, power), amount);
    }
  }

  /** The amounts of a recipe, the power 0 first. */
  static int[] row(int... amounts) {
    return amounts;
  }

  /** The amounts of a recipe of one part. */
  static int[] part(int amount, int power) {
    int[] amounts = new int[power + 1];
    amounts[power] = amount;
    return amounts;
  }

  static PolyKitchen kitchen(int[]... rows) {
    return Calls.build(new PolyKitchen(), rows);
  }

  /** A kitchen that has so many recipes, those that are not named without parts. */
  static PolyKitchen filled(int recipes, int[]... rows) {
    PolyKitchen kitchen = kitchen(rows);
    for (int more = rows.length; more < recipes; more++) {
      kitchen.addRecipe();
    }
    return kitchen;
  }

  static PolyKitchen full(int[]... rows) {
    return filled(MOST_RECIPES, rows);
  }

  static String textOf(PolyKitchen kitchen, int recipe) {
    StringBuilder text = new StringBuilder();
    int length = kitchen.textLength(recipe);
    for (int place = 0; place < length; place++) {
      text.append((char) kitchen.textAt(recipe, place));
    }
    return text.toString();
  }
}
