import java.math.BigInteger;
import java.util.ArrayList;
import java.util.List;

/**
 * The document once more, told in another way than the program: whole numbers without bounds, cut to
 * 32 bits at the end, and texts as strings. Plain and slow; the tests compare the program with it.
 */
final class ModelKitchen {
  private static final int POWERS = 9;

  private final List<BigInteger[]> recipes = new ArrayList<>();

  // ---- recipes

  int addRecipe() {
    return keep(nothing());
  }

  int set(int recipe, int power, int amount) {
    BigInteger[] found = find(recipe);
    index(power >= 0 && power <= 8);
    argument(Math.abs((long) amount) <= 999);
    int before = found[power].intValue();
    found[power] = BigInteger.valueOf(amount);
    return before;
  }

  int drop(int recipe) {
    find(recipe);
    return degree(recipes.remove(recipe));
  }

  int scale(int recipe, int factor) {
    BigInteger[] found = find(recipe);
    recipes.set(recipe, times(found, number(factor)));
    return degreeOf(recipe);
  }

  int shift(int recipe, int guests) {
    BigInteger[] found = find(recipe);
    argument(Math.abs((long) guests) <= 20);
    recipes.set(recipe, chained(found, xPlus(guests)));
    return amountOf(recipe, 0);
  }

  // ---- new ones of others

  int sum(int one, int other) {
    return keep(added(find(one), find(other), 1));
  }

  int difference(int one, int other) {
    return keep(added(find(one), find(other), -1));
  }

  int product(int one, int other) {
    BigInteger[] first = find(one);
    BigInteger[] second = find(other);
    argument(degree(first) + degree(second) <= 8);
    return keep(times(first, second));
  }

  int chain(int outer, int inner) {
    BigInteger[] first = find(outer);
    BigInteger[] second = find(inner);
    argument(degree(first) * degree(second) <= 8);
    return keep(chained(first, second));
  }

  int derive(int recipe) {
    BigInteger[] found = find(recipe);
    BigInteger[] made = nothing();
    for (int power = 0; power + 1 < POWERS; power++) {
      made[power] = cut(found[power + 1].multiply(BigInteger.valueOf(power + 1)));
    }
    return keep(made);
  }

  int divide(int recipe, int by) {
    BigInteger[] found = find(recipe);
    BigInteger[] plain = find(by);
    argument(plain(plain));
    state(recipes.size() <= 14);
    BigInteger[][] both = divided(found, plain);
    keep(both[0]);
    return keep(both[1]) - 1;
  }

  // ---- what there is

  int recipes() {
    return recipes.size();
  }

  int amountOf(int recipe, int power) {
    BigInteger[] found = find(recipe);
    index(power >= 0 && power <= 8);
    return found[power].intValueExact();
  }

  int degreeOf(int recipe) {
    return degree(find(recipe));
  }

  boolean isPlain(int recipe) {
    return plain(find(recipe));
  }

  long content(int recipe) {
    BigInteger divisor = BigInteger.ZERO;
    for (BigInteger amount : find(recipe)) {
      divisor = divisor.gcd(amount);
    }
    return divisor.longValueExact();
  }

  int signChanges(int recipe) {
    StringBuilder signs = new StringBuilder();
    for (BigInteger amount : find(recipe)) {
      signs.append(amount.signum() < 0 ? "-" : amount.signum() > 0 ? "+" : "");
    }
    int changes = 0;
    for (int place = 1; place < signs.length(); place++) {
      changes += signs.charAt(place) == signs.charAt(place - 1) ? 0 : 1;
    }
    return changes;
  }

  // ---- hunger

  int hunger(int recipe, int guests) {
    BigInteger total = BigInteger.ZERO;
    BigInteger[] found = find(recipe);
    for (int power = 0; power < POWERS; power++) {
      total = total.add(found[power].multiply(BigInteger.valueOf(guests).pow(power)));
    }
    return total.intValue();
  }

  int idleGuests(int recipe) {
    return idle(recipe).size();
  }

  int firstIdle(int recipe) {
    List<Integer> idle = idle(recipe);
    return idle.isEmpty() ? 99 : idle.get(0);
  }

  int agreeAt(int one, int other) {
    find(one);
    find(other);
    int found = 99;
    for (int guests = 20; guests >= -20; guests--) {
      found = hunger(one, guests) == hunger(other, guests) ? guests : found;
    }
    return found;
  }

  int cheapest(int recipe) {
    int best = 20;
    for (int guests = 20; guests >= 1; guests--) {
      best = hunger(recipe, guests) <= hunger(recipe, best) ? guests : best;
    }
    return best;
  }

  long hungerUpTo(int recipe, int guests) {
    find(recipe);
    argument(guests >= 1 && guests <= 50);
    BigInteger total = BigInteger.ZERO;
    for (int few = guests; few >= 1; few--) {
      total = total.add(BigInteger.valueOf(hunger(recipe, few)));
    }
    return total.longValue();
  }

  // ---- texts

  int textLength(int recipe) {
    return text(recipe).length();
  }

  int textAt(int recipe, int place) {
    String text = text(recipe);
    index(place >= 0 && place < text.length());
    return text.charAt(place);
  }

  // ---- what would be

  boolean isPartOf(int recipe, int by) {
    BigInteger[] found = find(recipe);
    BigInteger[] plain = find(by);
    return plain(plain) && degree(divided(found, plain)[1]) == -1;
  }

  int plainParts(int recipe) {
    BigInteger[] left = find(recipe);
    int parts = 0;
    for (int guests = -20; guests <= 20 && degree(left) >= 0; ) {
      BigInteger[][] both = divided(left, xPlus(-guests));
      if (degree(both[1]) >= 0) {
        guests++;
      } else {
        left = both[0];
        parts++;
      }
    }
    return parts;
  }

  int bestShift(int recipe) {
    BigInteger[] found = find(recipe);
    int best = 0;
    for (int guests = -20; guests <= 20; guests++) {
      best = better(found, guests, best) ? guests : best;
    }
    return best;
  }

  double meanDegree() {
    double total = 0;
    for (BigInteger[] recipe : recipes) {
      total += degree(recipe);
    }
    return recipes.isEmpty() ? 0 : total / recipes.size();
  }

  long digest() {
    List<Long> numbers = new ArrayList<>();
    numbers.add((long) recipes());
    for (int recipe = 0; recipe < recipes(); recipe++) {
      numbers.add((long) degreeOf(recipe));
      numbers.add(isPlain(recipe) ? 1L : 0L);
      numbers.add(content(recipe));
      numbers.add((long) signChanges(recipe));
      numbers.add((long) hunger(recipe, 3));
      numbers.add((long) idleGuests(recipe));
      numbers.add((long) firstIdle(recipe));
      numbers.add((long) cheapest(recipe));
      numbers.add((long) textLength(recipe));
      numbers.add((long) plainParts(recipe));
      numbers.add((long) bestShift(recipe));
      for (BigInteger amount : recipes.get(recipe)) {
        numbers.add(amount.longValueExact());
      }
    }
    BigInteger digest = BigInteger.valueOf(2179);
    for (long number : numbers) {
      digest = digest.multiply(BigInteger.valueOf(31)).add(BigInteger.valueOf(number));
    }
    return digest.longValue();
  }

  // ---- helpers

  private static void index(boolean right) {
    if (!right) {
      throw new IndexOutOfBoundsException();
    }
  }

  private static void argument(boolean right) {
    if (!right) {
      throw new IllegalArgumentException();
    }
  }

  private static void state(boolean right) {
    if (!right) {
      throw new IllegalStateException();
    }
  }

  private BigInteger[] find(int recipe) {
    index(recipe >= 0 && recipe < recipes.size());
    return recipes.get(recipe);
  }

  private int keep(BigInteger[] recipe) {
    state(recipes.size() < 16);
    recipes.add(recipe.clone());
    return recipes.size() - 1;
  }

  private static BigInteger cut(BigInteger number) {
    return BigInteger.valueOf(number.intValue());
  }

  private static BigInteger[] nothing() {
    return number(0);
  }

  private static BigInteger[] number(int amount) {
    BigInteger[] made = new BigInteger[POWERS];
    java.util.Arrays.fill(made, BigInteger.ZERO);
    made[0] = BigInteger.valueOf(amount);
    return made;
  }

  private static BigInteger[] xPlus(int amount) {
    BigInteger[] made = number(amount);
    made[1] = BigInteger.ONE;
    return made;
  }

  private static int degree(BigInteger[] recipe) {
    int degree = -1;
    for (int power = 0; power < POWERS; power++) {
      degree = recipe[power].signum() != 0 ? power : degree;
    }
    return degree;
  }

  private static boolean plain(BigInteger[] recipe) {
    return degree(recipe) >= 0 && recipe[degree(recipe)].equals(BigInteger.ONE);
  }

  private static BigInteger[] added(BigInteger[] one, BigInteger[] other, int sign) {
    BigInteger[] made = nothing();
    for (int power = 0; power < POWERS; power++) {
      made[power] = cut(one[power].add(other[power].multiply(BigInteger.valueOf(sign))));
    }
    return made;
  }

  /** A power above 8 that is not 0 would be a fault of the tests or the document. */
  private static BigInteger[] times(BigInteger[] one, BigInteger[] other) {
    BigInteger[] made = nothing();
    for (int first = 0; first <= degree(one); first++) {
      for (int second = 0; second <= degree(other); second++) {
        made[first + second] = cut(made[first + second].add(one[first].multiply(other[second])));
      }
    }
    return made;
  }

  private static BigInteger[] chained(BigInteger[] outer, BigInteger[] inner) {
    BigInteger[] made = nothing();
    for (int power = 0; power <= degree(outer); power++) {
      BigInteger[] part = number(1);
      for (int factor = 0; factor < power; factor++) {
        part = times(part, inner);
      }
      made = added(made, times(part, number(outer[power].intValue())), 1);
    }
    return made;
  }

  /** The quotient and the leftover. */
  private static BigInteger[][] divided(BigInteger[] recipe, BigInteger[] plain) {
    BigInteger[] quotient = nothing();
    BigInteger[] leftover = recipe;
    while (degree(leftover) >= degree(plain)) {
      int moved = degree(leftover) - degree(plain);
      BigInteger[] part = nothing();
      part[moved] = leftover[degree(leftover)];
      quotient = added(quotient, part, 1);
      leftover = added(leftover, times(part, plain), -1);
    }
    return new BigInteger[][] {quotient, leftover};
  }

  private List<Integer> idle(int recipe) {
    find(recipe);
    List<Integer> idle = new ArrayList<>();
    for (int guests = -20; guests <= 20; guests++) {
      if (hunger(recipe, guests) == 0) {
        idle.add(guests);
      }
    }
    return idle;
  }

  private String text(int recipe) {
    BigInteger[] found = find(recipe);
    String text = "";
    for (int power = 8; power >= 0; power--) {
      BigInteger amount = found[power];
      if (amount.signum() != 0) {
        String digits = amount.abs().toString();
        text += amount.signum() < 0 ? "-" : text.isEmpty() ? "" : "+";
        text += digits.equals("1") && power > 0 ? "" : digits;
        text += power == 0 ? "" : power == 1 ? "x" : "x" + power;
      }
    }
    return text.isEmpty() ? "0" : text;
  }

  private static boolean better(BigInteger[] recipe, int guests, int best) {
    int fewer = shiftedParts(recipe, guests) - shiftedParts(recipe, best);
    int nearer = Math.abs(guests) - Math.abs(best);
    return fewer < 0 || fewer == 0 && (nearer < 0 || nearer == 0 && guests > best);
  }

  private static int shiftedParts(BigInteger[] recipe, int guests) {
    int parts = 0;
    for (BigInteger amount : chained(recipe, xPlus(guests))) {
      parts += amount.signum() != 0 ? 1 : 0;
    }
    return parts;
  }
}
