/**
 * A kitchen of polynomials.
 *
 * <p>It keeps up to 16 recipes, numbered from 0; each has an amount for each of the powers 0 to 8 of
 * the number of guests. All amounts and hungers are 32-bit integers, which wrap around.
 */
public final class PolyKitchen {
  private static final int MOST_RECIPES = 16;
  private static final int POWERS = 9;
  private static final int GREATEST_POWER = 8;
  private static final int GREATEST_SET_AMOUNT = 999;
  private static final int FARTHEST_GUESTS = 20;
  private static final int MOST_GUESTS_ADDED = 50;
  private static final int NO_SUCH_GUESTS = 99;
  private static final int DIGEST_GUESTS = 3;
  private static final long DIGEST_START = 2179;
  private static final long DIGEST_FACTOR = 31;

  // The first 'count' rows are the recipes; all rows are made here, so that no call makes any.
  private final int[][] rows = new int[MOST_RECIPES][POWERS];
  private int count = 0;

  // Rows for what would be; no answer depends on what an earlier call left in them.
  private final int[] tried = new int[POWERS];
  private final int[] triedLeftover = new int[POWERS];
  private final RecipeText text = new RecipeText();

  /** Creates a kitchen without recipes. */
  public PolyKitchen() {}

  // ---- recipes

  /** Returns the number of a new recipe. */
  public int addRecipe() throws IllegalStateException {
    newRow();
    return count - 1;
  }

  /** Sets the amount of a power; returns the one before. */
  public int set(int recipe, int power, int amount)
      throws IndexOutOfBoundsException, IllegalArgumentException {
    int[] row = rowOf(recipe);
    requirePower(power);
    if (amount < -GREATEST_SET_AMOUNT || amount > GREATEST_SET_AMOUNT) {
      throw new IllegalArgumentException("the amount is not -999 to 999");
    }
    int before = row[power];
    row[power] = amount;
    return before;
  }

  /** Drops a recipe, so that those behind it have a number 1 less; returns its degree. */
  public int drop(int recipe) throws IndexOutOfBoundsException {
    int degree = Rows.degree(rowOf(recipe));
    for (int later = recipe + 1; later < count; later++) {
      Rows.copy(rows[later], rows[later - 1]);
    }
    count--;
    return degree;
  }

  /** Multiplies all amounts of a recipe by a factor; returns its degree then. */
  public int scale(int recipe, int factor) throws IndexOutOfBoundsException {
    int[] row = rowOf(recipe);
    for (int power = 0; power < POWERS; power++) {
      row[power] *= factor;
    }
    return Rows.degree(row);
  }

  /** Makes a recipe one for more guests; returns its amount of the power 0 then. */
  public int shift(int recipe, int guests)
      throws IndexOutOfBoundsException, IllegalArgumentException {
    int[] row = rowOf(recipe);
    if (guests < -FARTHEST_GUESTS || guests > FARTHEST_GUESTS) {
      throw new IllegalArgumentException("the guests are not -20 to 20");
    }
    Rows.moveBy(row, guests);
    return row[0];
  }

  // ---- new ones of others

  /** Returns the number of a new recipe, the sum of two. */
  public int sum(int one, int other) throws IndexOutOfBoundsException, IllegalStateException {
    int[] first = rowOf(one);
    int[] second = rowOf(other);
    int[] made = newRow();
    for (int power = 0; power < POWERS; power++) {
      made[power] = first[power] + second[power];
    }
    return count - 1;
  }

  /** Returns the number of a new recipe, the first one less the other one. */
  public int difference(int one, int other)
      throws IndexOutOfBoundsException, IllegalStateException {
    int[] first = rowOf(one);
    int[] second = rowOf(other);
    int[] made = newRow();
    for (int power = 0; power < POWERS; power++) {
      made[power] = first[power] - second[power];
    }
    return count - 1;
  }

  /** Returns the number of a new recipe, the product of two. */
  public int product(int one, int other)
      throws IndexOutOfBoundsException, IllegalArgumentException, IllegalStateException {
    int[] first = rowOf(one);
    int[] second = rowOf(other);
    if (Rows.degree(first) + Rows.degree(second) > GREATEST_POWER) {
      throw new IllegalArgumentException("the degrees, added, are more than 8");
    }
    Rows.multiply(first, second, newRow());
    return count - 1;
  }

  /** Returns the number of a new recipe, the chain of two. */
  public int chain(int outer, int inner)
      throws IndexOutOfBoundsException, IllegalArgumentException, IllegalStateException {
    int[] first = rowOf(outer);
    int[] second = rowOf(inner);
    if (Rows.degree(first) * Rows.degree(second) > GREATEST_POWER) {
      throw new IllegalArgumentException("the degrees, multiplied, are more than 8");
    }
    int[] made = newRow();
    for (int power = Rows.degree(first); power >= 0; power--) {
      Rows.multiply(made, second, tried);
      Rows.copy(tried, made);
      made[0] += first[power];
    }
    return count - 1;
  }

  /** Returns the number of a new recipe, which has of each power the next one's amount times it. */
  public int derive(int recipe) throws IndexOutOfBoundsException, IllegalStateException {
    int[] row = rowOf(recipe);
    int[] made = newRow();
    for (int power = 1; power < POWERS; power++) {
      made[power - 1] = row[power] * power;
    }
    return count - 1;
  }

  /** Divides by a plain recipe; returns the number of the quotient, ahead of the leftover. */
  public int divide(int recipe, int by)
      throws IndexOutOfBoundsException, IllegalArgumentException, IllegalStateException {
    int[] row = rowOf(recipe);
    int[] plainRow = rowOf(by);
    if (!Rows.plain(plainRow)) {
      throw new IllegalArgumentException("the recipe to divide by is not plain");
    }
    if (count > MOST_RECIPES - 2) {
      throw new IllegalStateException("there is no room for two recipes");
    }
    int[] quotient = newRow();
    int[] leftover = newRow();
    Rows.split(row, plainRow, quotient, leftover);
    return count - 2;
  }

  // ---- what there is

  /** Returns how many recipes there are. */
  public int recipes() {
    return count;
  }

  /** Returns the amount of a power. */
  public int amountOf(int recipe, int power) throws IndexOutOfBoundsException {
    int[] row = rowOf(recipe);
    requirePower(power);
    return row[power];
  }

  /** Returns the greatest power whose amount is not 0; -1 if there is none. */
  public int degreeOf(int recipe) throws IndexOutOfBoundsException {
    return Rows.degree(rowOf(recipe));
  }

  /** Returns whether a recipe has parts, and the amount of its degree is 1. */
  public boolean isPlain(int recipe) throws IndexOutOfBoundsException {
    return Rows.plain(rowOf(recipe));
  }

  /** Returns the greatest number that divides all amounts; 0 if they are all 0. */
  public long content(int recipe) throws IndexOutOfBoundsException {
    int[] row = rowOf(recipe);
    long divisor = 0;
    for (int power = 0; power < POWERS; power++) {
      divisor = Rows.commonDivisor(divisor, Rows.withoutSign(row[power]));
    }
    return divisor;
  }

  /** Returns how often two neighbours among the amounts that are not 0 have different signs. */
  public int signChanges(int recipe) throws IndexOutOfBoundsException {
    int[] row = rowOf(recipe);
    int changes = 0;
    int last = 0;
    for (int power = 0; power < POWERS; power++) {
      int amount = row[power];
      if (amount != 0) {
        if (last != 0 && (last < 0) != (amount < 0)) {
          changes++;
        }
        last = amount;
      }
    }
    return changes;
  }

  // ---- hunger

  /** Returns the hunger for a number of guests. */
  public int hunger(int recipe, int guests) throws IndexOutOfBoundsException {
    return Rows.hungerFor(rowOf(recipe), guests);
  }

  /** Returns for how many numbers of guests from -20 to 20 the hunger is 0. */
  public int idleGuests(int recipe) throws IndexOutOfBoundsException {
    int[] row = rowOf(recipe);
    int idle = 0;
    for (int guests = -FARTHEST_GUESTS; guests <= FARTHEST_GUESTS; guests++) {
      if (Rows.hungerFor(row, guests) == 0) {
        idle++;
      }
    }
    return idle;
  }

  /** Returns the smallest number of guests from -20 to 20 with hunger 0; 99 if there is none. */
  public int firstIdle(int recipe) throws IndexOutOfBoundsException {
    int[] row = rowOf(recipe);
    for (int guests = -FARTHEST_GUESTS; guests <= FARTHEST_GUESTS; guests++) {
      if (Rows.hungerFor(row, guests) == 0) {
        return guests;
      }
    }
    return NO_SUCH_GUESTS;
  }

  /** Returns the smallest number of guests from -20 to 20 with equal hungers; 99 if none. */
  public int agreeAt(int one, int other) throws IndexOutOfBoundsException {
    int[] first = rowOf(one);
    int[] second = rowOf(other);
    for (int guests = -FARTHEST_GUESTS; guests <= FARTHEST_GUESTS; guests++) {
      if (Rows.hungerFor(first, guests) == Rows.hungerFor(second, guests)) {
        return guests;
      }
    }
    return NO_SUCH_GUESTS;
  }

  /** Returns the number of guests from 1 to 20 with the least hunger, of several the smallest. */
  public int cheapest(int recipe) throws IndexOutOfBoundsException {
    int[] row = rowOf(recipe);
    int best = 1;
    int least = Rows.hungerFor(row, best);
    for (int guests = 2; guests <= FARTHEST_GUESTS; guests++) {
      int hunger = Rows.hungerFor(row, guests);
      if (hunger < least) {
        best = guests;
        least = hunger;
      }
    }
    return best;
  }

  /** Returns the hungers for 1 to a number of guests, added as 64-bit integers. */
  public long hungerUpTo(int recipe, int guests)
      throws IndexOutOfBoundsException, IllegalArgumentException {
    int[] row = rowOf(recipe);
    if (guests < 1 || guests > MOST_GUESTS_ADDED) {
      throw new IllegalArgumentException("the guests are not 1 to 50");
    }
    long total = 0;
    for (int few = 1; few <= guests; few++) {
      total += Rows.hungerFor(row, few);
    }
    return total;
  }

  // ---- texts

  /** Returns how many characters the text of a recipe has. */
  public int textLength(int recipe) throws IndexOutOfBoundsException {
    text.write(rowOf(recipe));
    return text.size();
  }

  /** Returns the character at a place of the text, as a number. */
  public int textAt(int recipe, int place) throws IndexOutOfBoundsException {
    text.write(rowOf(recipe));
    if (place < 0 || place >= text.size()) {
      throw new IndexOutOfBoundsException("there is no such place");
    }
    return text.signAt(place);
  }

  // ---- what would be

  /** Returns whether 'by' is plain and dividing by it would leave nothing over. */
  public boolean isPartOf(int recipe, int by) throws IndexOutOfBoundsException {
    int[] row = rowOf(recipe);
    int[] plainRow = rowOf(by);
    if (!Rows.plain(plainRow)) {
      return false;
    }
    Rows.split(row, plainRow, tried, triedLeftover);
    return Rows.parts(triedLeftover) == 0;
  }

  /** Returns how often it could be divided by x less -20 to 20, the smallest numbers first. */
  public int plainParts(int recipe) throws IndexOutOfBoundsException {
    Rows.copy(rowOf(recipe), tried);
    int found = 0;
    for (int guests = -FARTHEST_GUESTS; guests <= FARTHEST_GUESTS; guests++) {
      // Each division makes the degree 1 less, so 8 of them are the most that one number allows.
      for (int times = 0; times < GREATEST_POWER && dividesTried(guests); times++) {
        Rows.divideByLess(tried, guests);
        found++;
      }
    }
    return found;
  }

  /** Returns the shift by -20 to 20 that would leave the fewest parts, the nearest to 0 of them. */
  public int bestShift(int recipe) throws IndexOutOfBoundsException {
    int[] row = rowOf(recipe);
    int best = 0;
    int fewest = Rows.parts(row);
    for (int far = 1; far <= FARTHEST_GUESTS; far++) {
      // The greater one of two as near is tried first, and only fewer parts take its place.
      for (int side = 1; side >= -1; side -= 2) {
        int left = partsWhenMoved(row, side * far);
        if (left < fewest) {
          best = side * far;
          fewest = left;
        }
      }
    }
    return best;
  }

  /** Returns the mean degree of the recipes; 0 without any. */
  public double meanDegree() {
    if (count <= 0) {
      return 0.0;
    }
    int total = 0;
    for (int recipe = 0; recipe < count; recipe++) {
      total += degreeOf(recipe);
    }
    return (double) total / count;
  }

  /** Returns a checksum of all that there is. */
  public long digest() {
    long digest = DIGEST_START * DIGEST_FACTOR + recipes();
    for (int recipe = 0; recipe < count; recipe++) {
      digest = digest * DIGEST_FACTOR + degreeOf(recipe);
      digest = digest * DIGEST_FACTOR + (isPlain(recipe) ? 1 : 0);
      digest = digest * DIGEST_FACTOR + content(recipe);
      digest = digest * DIGEST_FACTOR + signChanges(recipe);
      digest = digest * DIGEST_FACTOR + hunger(recipe, DIGEST_GUESTS);
      digest = digest * DIGEST_FACTOR + idleGuests(recipe);
      digest = digest * DIGEST_FACTOR + firstIdle(recipe);
      digest = digest * DIGEST_FACTOR + cheapest(recipe);
      digest = digest * DIGEST_FACTOR + textLength(recipe);
      digest = digest * DIGEST_FACTOR + plainParts(recipe);
      digest = digest * DIGEST_FACTOR + bestShift(recipe);
      for (int power = 0; power < POWERS; power++) {
        digest = digest * DIGEST_FACTOR + amountOf(recipe, power);
      }
    }
    return digest;
  }

  // ---- helpers

  private int[] rowOf(int recipe) {
    if (recipe < 0 || recipe >= count) {
      throw new IndexOutOfBoundsException("there is no such recipe");
    }
    return rows[recipe];
  }

  private static void requirePower(int power) {
    if (power < 0 || power > GREATEST_POWER) {
      throw new IndexOutOfBoundsException("the power is not 0 to 8");
    }
  }

  /** Takes the next row for a new recipe, all of whose amounts are 0. */
  private int[] newRow() {
    if (count >= MOST_RECIPES) {
      throw new IllegalStateException("there are 16 recipes");
    }
    int[] row = rows[count];
    Rows.clear(row);
    count++;
    return row;
  }

  private boolean dividesTried(int guests) {
    return Rows.parts(tried) > 0 && Rows.hungerFor(tried, guests) == 0;
  }

  private int partsWhenMoved(int[] row, int guests) {
    Rows.copy(row, tried);
    Rows.moveBy(tried, guests);
    return Rows.parts(tried);
  }

  /** What can be reckoned with rows of amounts; each row has POWERS amounts, the power 0's first. */
  private static final class Rows {
    private static final int MOST_DIVISOR_STEPS = 100;

    private Rows() {}

    static void clear(int[] row) {
      for (int power = 0; power < POWERS; power++) {
        row[power] = 0;
      }
    }

    static void copy(int[] from, int[] to) {
      for (int power = 0; power < POWERS; power++) {
        to[power] = from[power];
      }
    }

    static int degree(int[] row) {
      for (int power = GREATEST_POWER; power >= 0; power--) {
        if (row[power] != 0) {
          return power;
        }
      }
      return -1;
    }

    static boolean plain(int[] row) {
      int degree = degree(row);
      return degree >= 0 && row[degree] == 1;
    }

    static int parts(int[] row) {
      int parts = 0;
      for (int power = 0; power < POWERS; power++) {
        if (row[power] != 0) {
          parts++;
        }
      }
      return parts;
    }

    static int hungerFor(int[] row, int guests) {
      int hunger = 0;
      for (int power = GREATEST_POWER; power >= 0; power--) {
        hunger = hunger * guests + row[power];
      }
      return hunger;
    }

    /** Puts (x + guests) in the place of x: Horner's scheme, over and over. */
    static void moveBy(int[] row, int guests) {
      for (int lowest = 0; lowest < GREATEST_POWER; lowest++) {
        for (int power = GREATEST_POWER - 1; power >= lowest; power--) {
          row[power] += guests * row[power + 1];
        }
      }
    }

    /** Needs a row of its own for the product; the callers keep all powers within 8. */
    static void multiply(int[] one, int[] other, int[] made) {
      clear(made);
      for (int power = 0; power < POWERS; power++) {
        for (int second = 0; power + second < POWERS; second++) {
          made[power + second] += one[power] * other[second];
        }
      }
    }

    /** Divides a row by a plain one; needs rows of their own for the quotient and the leftover. */
    static void split(int[] row, int[] plainRow, int[] quotient, int[] leftover) {
      clear(quotient);
      copy(row, leftover);
      int degree = degree(plainRow);
      if (degree < 0) {
        return;
      }
      for (int power = GREATEST_POWER; power >= degree; power--) {
        int times = leftover[power];
        int moved = power - degree;
        quotient[moved] = times;
        for (int low = 0; low <= degree; low++) {
          leftover[moved + low] -= times * plainRow[low];
        }
      }
    }

    /** Puts the quotient of dividing by x less guests in the row's place; no leftover is kept. */
    static void divideByLess(int[] row, int guests) {
      int carried = 0;
      for (int power = GREATEST_POWER; power >= 0; power--) {
        int amount = row[power];
        row[power] = carried;
        carried = carried * guests + amount;
      }
    }

    /** A long, since the smallest int has no counterpart among the ints. */
    static long withoutSign(int amount) {
      long size = amount;
      return size < 0 ? -size : size;
    }

    /** Euclid's way; under 50 steps are enough for numbers of 32 bits. */
    static long commonDivisor(long one, long other) {
      long divisor = one;
      long rest = other;
      for (int step = 0; step < MOST_DIVISOR_STEPS && rest != 0; step++) {
        long next = divisor % rest;
        divisor = rest;
        rest = next;
      }
      return divisor;
    }
  }

  /** The text of a recipe, written into one array again and again, so that no call makes any. */
  private static final class RecipeText {
    private static final int MOST_DIGITS = 10;
    private static final long GREATEST_UNIT = 1_000_000_000L;
    // A part is a sign, the digits, x and a digit for the power.
    private static final int ROOM = POWERS * (MOST_DIGITS + 3);

    private final char[] signs = new char[ROOM];
    private int size = 0;

    int size() {
      return size;
    }

    int signAt(int place) {
      return place >= 0 && place < size ? signs[place] : 0;
    }

    void write(int[] row) {
      size = 0;
      for (int power = GREATEST_POWER; power >= 0; power--) {
        if (row[power] != 0) {
          putPart(row[power], power);
        }
      }
      if (size == 0) {
        put('0');
      }
    }

    private void putPart(int amount, int power) {
      if (amount < 0) {
        put('-');
      } else if (size > 0) {
        put('+');
      }
      long digits = Rows.withoutSign(amount);
      if (digits != 1 || power == 0) {
        putDigits(digits);
      }
      if (power >= 1) {
        put('x');
      }
      if (power >= 2) {
        putDigits(power);
      }
    }

    private void putDigits(long number) {
      long unit = GREATEST_UNIT;
      for (int digit = 0; digit < MOST_DIGITS; digit++) {
        if (unit > 0 && number >= unit) {
          put((char) ('0' + number / unit % 10));
        }
        unit /= 10;
      }
    }

    private void put(char sign) {
      if (size < ROOM) {
        signs[size] = sign;
        size++;
      }
    }
  }
}
