import java.util.Arrays;

/**
 * Each sentence of the document that says what is thrown, with a test of its own: the last values
 * on either side of its edge, the exceptions' order, and that nothing has changed behind a refused
 * call.
 */
public final class RefusalsTest extends Cases {
  private static final int[] COUNTS = {0, 1, 2, 14, 15, 16};

  private RefusalsTest() {}

  public static void main(String[] args) {
    noSuchRecipe();
    addRecipeWith16();
    setOfNoSuchPower();
    setOfNoSuchAmount();
    shiftByNoSuchGuests();
    sumWith16();
    differenceWith16();
    productOfTooGreatDegrees();
    productWith16();
    chainOfTooGreatDegrees();
    chainWith16();
    deriveWith16();
    divideByOneThatIsNotPlain();
    divideWithMoreThan14();
    amountOfNoSuchPower();
    hungerUpToNoSuchGuests();
    textAtNoSuchPlace();
    theFirstNamedIsThrown();
    end("RefusalsTest");
  }

  // ---- "IndexOutOfBoundsException if there is no such recipe", promises 3 to 12 and 14 to 29

  private static void noSuchRecipe() {
    noSuch("3: set", (kitchen, recipe) -> kitchen.set(recipe, 8, 2));
    noSuch("4: drop", (kitchen, recipe) -> kitchen.drop(recipe));
    noSuch("5: scale", (kitchen, recipe) -> kitchen.scale(recipe, 2));
    noSuch("6: shift", (kitchen, recipe) -> kitchen.shift(recipe, 1));
    noSuch("7: sum", (kitchen, one, other) -> kitchen.sum(one, other));
    noSuch("8: difference", (kitchen, one, other) -> kitchen.difference(one, other));
    noSuch("9: product", (kitchen, one, other) -> kitchen.product(one, other));
    noSuch("10: chain", (kitchen, one, other) -> kitchen.chain(one, other));
    noSuch("11: derive", (kitchen, recipe) -> kitchen.derive(recipe));
    noSuch("12: divide", (kitchen, one, other) -> kitchen.divide(one, other));
    noSuch("14: amountOf", (kitchen, recipe) -> kitchen.amountOf(recipe, 0));
    noSuch("15: degreeOf", (kitchen, recipe) -> kitchen.degreeOf(recipe));
    noSuch("16: isPlain", (kitchen, recipe) -> kitchen.isPlain(recipe));
    noSuch("17: content", (kitchen, recipe) -> kitchen.content(recipe));
    noSuch("18: signChanges", (kitchen, recipe) -> kitchen.signChanges(recipe));
    noSuch("19: hunger", (kitchen, recipe) -> kitchen.hunger(recipe, 1));
    noSuch("20: idleGuests", (kitchen, recipe) -> kitchen.idleGuests(recipe));
    noSuch("21: firstIdle", (kitchen, recipe) -> kitchen.firstIdle(recipe));
    noSuch("22: agreeAt", (kitchen, one, other) -> kitchen.agreeAt(one, other));
    noSuch("23: cheapest", (kitchen, recipe) -> kitchen.cheapest(recipe));
    noSuch("24: hungerUpTo", (kitchen, recipe) -> kitchen.hungerUpTo(recipe, 1));
    noSuch("25: textLength", (kitchen, recipe) -> kitchen.textLength(recipe));
    noSuch("26: textAt", (kitchen, recipe) -> kitchen.textAt(recipe, 0));
    noSuch("27: isPartOf", (kitchen, one, other) -> kitchen.isPartOf(one, other));
    noSuch("28: plainParts", (kitchen, recipe) -> kitchen.plainParts(recipe));
    noSuch("29: bestShift", (kitchen, recipe) -> kitchen.bestShift(recipe));
  }

  private static void noSuch(String what, OneRecipe call) {
    for (int count : COUNTS) {
      Maker maker = () -> same(count, row(1));
      for (int recipe : wrongNumbers(count)) {
        refused(said(what, recipe, count), INDEX, maker, k -> call.of(k, recipe));
      }
      if (count > 0) {
        found(said(what, 0, count), maker, k -> call.of(k, 0));
        found(said(what, count - 1, count), maker, k -> call.of(k, count - 1));
      }
    }
  }

  private static void noSuch(String what, TwoRecipes call) {
    noSuch(what + " of both", (kitchen, recipe) -> call.of(kitchen, recipe, recipe));
    for (int count : COUNTS) {
      for (int recipe : wrongNumbers(count)) {
        for (int there = 0; there < count; there += 7) {
          withOneThere(said(what + " with " + there, recipe, count), count, recipe, there, call);
        }
      }
    }
  }

  /** The other one may be plain or not, or without parts: its kind does not come first. */
  private static void withOneThere(
      String what, int count, int recipe, int there, TwoRecipes call) {
    for (int[] row : new int[][] {row(1), row(), row(3, 2)}) {
      Maker maker = () -> same(count, row);
      refused(what + ", first", INDEX, maker, k -> call.of(k, recipe, there));
      refused(what + ", second", INDEX, maker, k -> call.of(k, there, recipe));
    }
  }

  private static int[] wrongNumbers(int count) {
    return new int[] {LEAST, -1, count, count + 1, MOST_RECIPES, GREATEST};
  }

  private static String said(String what, int recipe, int count) {
    return what + " " + recipe + " of " + count;
  }

  /** Other exceptions than that of the recipe's number are left to the tests below. */
  private static void found(String what, Maker maker, Attempt call) {
    PolyKitchen kitchen = maker.make();
    String outcome = Checks.outcome(() -> call.on(kitchen));
    due(what + " is not found", outcome.equals("throws." + INDEX.getSimpleName()), false);
  }

  private static PolyKitchen same(int count, int[] row) {
    int[][] rows = new int[count][];
    Arrays.fill(rows, row);
    return kitchen(rows);
  }

  // ---- "Throws IllegalStateException if there are 16"

  private static void addRecipeWith16() {
    neededRoom("2: addRecipe", k -> k.addRecipe());
  }

  private static void sumWith16() {
    neededRoom("7: sum", k -> k.sum(0, 1));
    neededRoom("7: sum with itself", k -> k.sum(0, 0));
  }

  private static void differenceWith16() {
    neededRoom("8: difference", k -> k.difference(0, 1));
    neededRoom("8: difference to itself", k -> k.difference(0, 0));
  }

  private static void productWith16() {
    neededRoom("9: product", k -> k.product(0, 1));
    neededRoom("9: product with itself", k -> k.product(0, 0));
  }

  private static void chainWith16() {
    neededRoom("10: chain", k -> k.chain(0, 1));
    neededRoom("10: chain with itself", k -> k.chain(0, 0));
  }

  private static void deriveWith16() {
    neededRoom("11: derive", k -> k.derive(0));
  }

  /** Taken with 15, whose new one is the last; refused with 16, and taken again after a drop. */
  private static void neededRoom(String what, Attempt call) {
    PolyKitchen kitchen = filled(15, row(1, 1), row(2, 3));
    due(what + " with 15", call.on(kitchen), 15);
    due(what + " makes 16", kitchen.recipes(), 16);
    refused(what + " with 16", STATE, () -> full(row(1, 1), row(2, 3), row(4)), call);
    refused(what + " with 16 that are not empty", STATE, RefusalsTest::fullOfParts, call);
    PolyKitchen dropped = full(row(1, 1), row(2, 3), row(4));
    dropped.drop(2);
    due(what + " after a drop", call.on(dropped), 15);
  }

  private static PolyKitchen fullOfParts() {
    int[][] rows = new int[MOST_RECIPES][];
    for (int recipe = 0; recipe < MOST_RECIPES; recipe++) {
      rows[recipe] = row(recipe + 1, recipe - 20, 1);
    }
    return kitchen(rows);
  }

  // ---- "or power is not 0 to 8", "if amount is not -999 to 999"

  private static void setOfNoSuchPower() {
    Maker maker = () -> kitchen(row(1, 2, 3, 4, 5, 6, 7, 8, 9), row(5));
    for (int power : new int[] {LEAST, -2, -1, 9, 10, GREATEST}) {
      refused("3: set of the power " + power, INDEX, maker, k -> k.set(0, power, 5));
    }
    PolyKitchen kitchen = maker.make();
    due("3: set of the power 0", kitchen.set(0, 0, -5), 1);
    due("3: set of the power 8", kitchen.set(0, 8, -6), 9);
    amounts("3: after both", kitchen, 0, -5, 2, 3, 4, 5, 6, 7, 8, -6);
  }

  private static void setOfNoSuchAmount() {
    Maker maker = () -> kitchen(row(1, 2), row(5));
    for (int amount : new int[] {LEAST, -1001, -1000, 1000, 1001, 65536, GREATEST}) {
      refused("3: set to " + amount, ARGUMENT, maker, k -> k.set(0, 1, amount));
    }
    PolyKitchen kitchen = maker.make();
    due("3: set to 999", kitchen.set(0, 0, 999), 1);
    due("3: set to -999", kitchen.set(0, 0, -999), 999);
    due("3: set to 0", kitchen.set(0, 0, 0), -999);
    amounts("3: after all", kitchen, 0, 0, 2);
  }

  private static void amountOfNoSuchPower() {
    Maker maker = () -> kitchen(row(1, 2, 3, 4, 5, 6, 7, 8, 9), row(5));
    for (int power : new int[] {LEAST, -2, -1, 9, 10, GREATEST}) {
      refused("14: amountOf the power " + power, INDEX, maker, k -> k.amountOf(0, power));
    }
    asked("14: amountOf the power 0", maker, k -> k.amountOf(0, 0), 1);
    asked("14: amountOf the power 8", maker, k -> k.amountOf(0, 8), 9);
  }

  // ---- "if guests is not -20 to 20", "if guests is not 1 to 50"

  private static void shiftByNoSuchGuests() {
    Maker maker = () -> kitchen(row(1, 2, 3), row());
    for (int guests : new int[] {LEAST, -22, -21, 21, 22, GREATEST}) {
      refused("6: shift by " + guests, ARGUMENT, maker, k -> k.shift(0, guests));
      refused("6: shift of no parts by " + guests, ARGUMENT, maker, k -> k.shift(1, guests));
    }
    PolyKitchen kitchen = maker.make();
    due("6: shift by 20", kitchen.shift(0, 20), 1241);
    amounts("6: after 20", kitchen, 0, 1241, 122, 3);
    due("6: shift by -20", kitchen.shift(0, -20), 1);
    amounts("6: after -20", kitchen, 0, 1, 2, 3);
  }

  private static void hungerUpToNoSuchGuests() {
    Maker maker = () -> kitchen(row(1, 2), row());
    for (int guests : new int[] {LEAST, -1, 0, 51, 52, GREATEST}) {
      refused("24: hungerUpTo " + guests, ARGUMENT, maker, k -> k.hungerUpTo(0, guests));
      refused("24: no parts up to " + guests, ARGUMENT, maker, k -> k.hungerUpTo(1, guests));
    }
    asked("24: hungerUpTo 1", maker, k -> k.hungerUpTo(0, 1), 3);
    asked("24: hungerUpTo 50", maker, k -> k.hungerUpTo(0, 50), 2600);
  }

  // ---- "if both degrees, added, are more than 8", "if both degrees, multiplied, are more than 8"

  private static void productOfTooGreatDegrees() {
    for (int one = -1; one <= 8; one++) {
      for (int other = -1; other <= 8; other++) {
        Maker maker = ofDegrees(one, other);
        String what = "9: product of the degrees " + one + " and " + other;
        if (one + other > 8) {
          refused(what, ARGUMENT, maker, k -> k.product(0, 1));
        } else {
          PolyKitchen kitchen = maker.make();
          due(what, kitchen.product(0, 1), 2);
          int degree = one < 0 || other < 0 ? -1 : one + other;
          due(what + ", its degree", kitchen.degreeOf(2), degree);
        }
      }
    }
    Maker wrapping = () -> kitchen(part(1 << 16, 4), part(1 << 16, 5));
    refused("9: a product that were 0", ARGUMENT, wrapping, k -> k.product(0, 1));
    due("9: a product that is 0", wrapping.make().product(0, 0), 2);
    Maker itself = () -> kitchen(part(1, 4), part(1, 5));
    due("9: degree 4 with itself", itself.make().product(0, 0), 2);
    refused("9: degree 5 with itself", ARGUMENT, itself, k -> k.product(1, 1));
  }

  private static void chainOfTooGreatDegrees() {
    for (int one = -1; one <= 8; one++) {
      for (int other = -1; other <= 8; other++) {
        Maker maker = ofDegrees(one, other);
        String what = "10: chain of the degrees " + one + " and " + other;
        if (one * other > 8) {
          refused(what, ARGUMENT, maker, k -> k.chain(0, 1));
        } else {
          PolyKitchen kitchen = maker.make();
          due(what, kitchen.chain(0, 1), 2);
          int degree = one < 0 ? -1 : other < 0 ? 0 : one * other;
          due(what + ", its degree", kitchen.degreeOf(2), degree);
        }
      }
    }
    Maker wrapping = () -> kitchen(part(1, 3), part(1 << 16, 3), part(1 << 16, 2));
    refused("10: a chain that were 0", ARGUMENT, wrapping, k -> k.chain(0, 1));
    due("10: a chain that is 0", wrapping.make().chain(0, 2), 3);
    Maker itself = () -> kitchen(row(0, 1, 1), part(1, 3));
    due("10: degree 2 with itself", itself.make().chain(0, 0), 2);
    refused("10: degree 3 with itself", ARGUMENT, itself, k -> k.chain(1, 1));
  }

  /** Recipes of these degrees all of whose amounts up to there are 1. */
  private static Maker ofDegrees(int one, int other) {
    return () -> kitchen(ones(one), ones(other));
  }

  private static int[] ones(int degree) {
    int[] amounts = new int[degree + 1];
    Arrays.fill(amounts, 1);
    return amounts;
  }

  // ---- "if by is not plain", "if there are more than 14"

  private static void divideByOneThatIsNotPlain() {
    int[][] notPlain = {
      row(), row(-1), row(2), row(1, 2), row(1, -1), row(1, 1, 1, 1, 1, 1, 1, 1, 2),
      row(1, 1, 1, 1, 1, 1, 1, 1, -1), row(1, LEAST), row(1, LEAST + 1), row(1, GREATEST)
    };
    for (int[] by : notPlain) {
      Maker maker = () -> kitchen(row(3, 2, 1), by);
      String text = textOf(maker.make(), 1);
      refused("12: divide by " + text, ARGUMENT, maker, k -> k.divide(0, 1));
      refused("12: divide itself by " + text, ARGUMENT, maker, k -> k.divide(1, 1));
      asked("27: isPartOf by " + text, maker, k -> k.isPartOf(0, 1), false);
    }
    for (int[] by : new int[][] {row(1), row(-5, 1), row(2, 2, 1), part(1, 8)}) {
      taken("12: divide by a plain one", () -> kitchen(row(3, 2, 2), by), k -> k.divide(0, 1));
    }
  }

  private static void divideWithMoreThan14() {
    for (int count = 2; count <= 14; count++) {
      PolyKitchen kitchen = filled(count, row(7, 0, 1), row(-2, 1));
      due("12: divide with " + count, kitchen.divide(0, 1), count);
      due("12: recipes then", kitchen.recipes(), count + 2);
      amounts("12: the quotient with " + count, kitchen, count, 2, 1);
      amounts("12: the leftover with " + count, kitchen, count + 1, 11);
    }
    for (int count = 15; count <= 16; count++) {
      int recipes = count;
      Maker maker = () -> filled(recipes, row(7, 0, 1), row(-2, 1), row(1, 2));
      refused("12: divide with " + count, STATE, maker, k -> k.divide(0, 1));
      refused("12: divide by itself with " + count, STATE, maker, k -> k.divide(1, 1));
      refused("12: divide by a greater one with " + count, STATE, maker, k -> k.divide(1, 0));
    }
    PolyKitchen dropped = full(row(7, 0, 1), row(-2, 1));
    dropped.drop(15);
    dropped.drop(2);
    due("12: divide after two drops", dropped.divide(0, 1), 14);
  }

  // ---- "or no such place"

  private static void textAtNoSuchPlace() {
    noPlace("0", row());
    noPlace("7", row(7));
    noPlace("-x+10", row(10, -1));
    noPlace("x8-1", row(-1, 0, 0, 0, 0, 0, 0, 0, 1));
  }

  private static void noPlace(String text, int[] row) {
    Maker maker = () -> kitchen(row(100, 100, 100), row);
    int length = text.length();
    for (int place : new int[] {LEAST, -1, length, length + 1, 114, GREATEST}) {
      refused("26: place " + place + " of " + text, INDEX, maker, k -> k.textAt(1, place));
    }
    asked("26: place 0 of " + text, maker, k -> k.textAt(1, 0), (int) text.charAt(0));
    int last = text.charAt(length - 1);
    asked("26: the last place of " + text, maker, k -> k.textAt(1, length - 1), last);
  }

  // ---- "If several exceptions apply, the one that is named first is thrown."

  private static void theFirstNamedIsThrown() {
    Maker one = () -> kitchen(row(1, 2));
    refused("3: recipe, power, amount", INDEX, one, k -> k.set(1, 9, 1000));
    refused("3: recipe, amount", INDEX, one, k -> k.set(-1, 0, -1000));
    refused("3: power, amount", INDEX, one, k -> k.set(0, -1, 1000));
    refused("6: recipe, guests", INDEX, one, k -> k.shift(1, -21));
    refused("14: recipe, power", INDEX, one, k -> k.amountOf(1, 9));
    refused("24: recipe, guests", INDEX, one, k -> k.hungerUpTo(-1, 51));
    refused("26: recipe, place", INDEX, one, k -> k.textAt(1, -1));
    Maker most = () -> full(row(1, 1, 1, 1, 1, 1), row(1, 2));
    recipeAheadOfRoom("7: sum", most, (k, first, second) -> k.sum(first, second));
    recipeAheadOfRoom("8: difference", most, (k, first, second) -> k.difference(first, second));
    recipeAheadOfRoom("9: product", most, (k, first, second) -> k.product(first, second));
    recipeAheadOfRoom("10: chain", most, (k, first, second) -> k.chain(first, second));
    recipeAheadOfRoom("12: divide", most, (k, first, second) -> k.divide(first, second));
    refused("11: recipe, 16", INDEX, most, k -> k.derive(16));
    refused("9: degrees, 16", ARGUMENT, most, k -> k.product(0, 0));
    refused("10: degrees, 16", ARGUMENT, most, k -> k.chain(0, 0));
    refused("12: not plain, 16", ARGUMENT, most, k -> k.divide(0, 1));
    refused("12: recipe, not plain, 16", INDEX, most, k -> k.divide(16, 1));
    Maker nearly = () -> filled(15, row(1, 1), row(1, 2));
    refused("12: not plain, 15", ARGUMENT, nearly, k -> k.divide(0, 1));
    refused("12: recipe, not plain, 15", INDEX, nearly, k -> k.divide(15, 1));
    refused("12: recipe, not plain", INDEX, () -> kitchen(row(1, 2)), k -> k.divide(1, 0));
    refused("12: recipe, 15", INDEX, nearly, k -> k.divide(0, 15));
  }

  private static void recipeAheadOfRoom(String what, Maker most, TwoRecipes call) {
    refused(what + ", first recipe, 16", INDEX, most, k -> call.of(k, 16, 0));
    refused(what + ", second recipe, 16", INDEX, most, k -> call.of(k, 0, 16));
    refused(what + ", both recipes, 16", INDEX, most, k -> call.of(k, -1, -1));
  }
}
