import java.math.BigInteger;

/**
 * The sentences of the promises that name an edge but no exception, each with a test of its own;
 * those that name an exception are in RefusalsTest.
 */
public final class PromisesEdgesTest extends Cases {
  private static final int[] NOTHING = {};

  private PromisesEdgesTest() {}

  public static void main(String[] args) {
    createsAKitchenWithoutRecipes();
    numberOfANewRecipe();
    setReturnsTheOneBefore();
    thoseBehindHaveANumberOneLess();
    dropReturnsTheDegree();
    scaleByAnyFactor();
    scaleReturnsTheDegreeThen();
    shiftIsForSoManyMore();
    shiftReturnsTheAmountThen();
    newOnesOfTheSameRecipe();
    differenceOfNoParts();
    deriveMovesEachAmount();
    quotientAheadOfLeftover();
    howManyRecipes();
    contentIsTheGreatest();
    contentOfNoParts();
    signChangesOverZeros();
    signChangesFewestAndMost();
    hungerOfAnyGuests();
    idleFromMinus20To20();
    idleNoneAndAll();
    firstIdleFromMinus20To20();
    firstIdleIsTheSmallest();
    firstIdleNone();
    agreeFromMinus20To20();
    agreeIsTheSmallest();
    agreeNone();
    cheapestFrom1To20();
    cheapestOfSeveral();
    cheapestOfWrappedHungers();
    hungersAddedAs64Bits();
    textLengthShortestAndLongest();
    partOnlyOfPlainOnes();
    partWithoutLeftover();
    plainPartsFromMinus20To20();
    plainPartsSmallestFirst();
    plainPartsAsOftenAsCanBe();
    plainPartsOfNoParts();
    bestShiftFromMinus20To20();
    bestShiftNearestTo0();
    bestShiftTheGreaterOfTwo();
    meanDegreeWithoutAny();
    meanDegreeOfAll();
    digestStartsWith2179();
    digestOfEachNumber();
    digestWrapsAround();
    end("PromisesEdgesTest");
  }

  // ---- promises 1 to 6

  /** "Creates a kitchen without recipes." */
  private static void createsAKitchenWithoutRecipes() {
    due("1: recipes", new PolyKitchen().recipes(), 0);
    refused("1: no recipe 0", INDEX, () -> new PolyKitchen(), k -> k.degreeOf(0));
    PolyKitchen one = new PolyKitchen();
    PolyKitchen other = new PolyKitchen();
    one.set(one.addRecipe(), 0, 5);
    due("1: another kitchen has none of it", other.recipes(), 0);
    amounts("1: nor its amounts", other, other.addRecipe());
  }

  /** "Returns the number of a new recipe." */
  private static void numberOfANewRecipe() {
    PolyKitchen kitchen = full(row(1), row(2));
    kitchen.drop(0);
    due("2: the number behind a drop", kitchen.addRecipe(), 15);
    due("2: all of them", kitchen.recipes(), 16);
    while (kitchen.recipes() > 0) {
      kitchen.drop(0);
    }
    due("2: the first one again", kitchen.addRecipe(), 0);
  }

  /** "its amount from now on. Returns the one before." */
  private static void setReturnsTheOneBefore() {
    PolyKitchen kitchen = kitchen(row(0, GREATEST, LEAST));
    due("3: before, at first", kitchen.set(0, 0, 999), 0);
    due("3: before, the most", kitchen.set(0, 0, -999), 999);
    due("3: before, the least", kitchen.set(0, 0, 0), -999);
    due("3: before, 0 again", kitchen.set(0, 0, 0), 0);
    due("3: before, more than can be set", kitchen.set(0, 1, 1), GREATEST);
    due("3: before, less than can be set", kitchen.set(0, 2, 1), LEAST);
    amounts("3: from now on", kitchen, 0, 0, 1, 1);
  }

  /** "Drops a recipe; those behind it have a number 1 less then." */
  private static void thoseBehindHaveANumberOneLess() {
    for (int dropped = 0; dropped < MOST_RECIPES; dropped++) {
      PolyKitchen kitchen = fullOfNumbers();
      kitchen.drop(dropped);
      due("4: recipes without " + dropped, kitchen.recipes(), 15);
      for (int recipe = 0; recipe < 15; recipe++) {
        int number = recipe < dropped ? recipe : recipe + 1;
        due("4: hunger without " + dropped, kitchen.hunger(recipe, 1), number + 1);
      }
      due("4: the one without parts behind them", kitchen.addRecipe(), 15);
      amounts("4: nothing is left behind", kitchen, 15);
      kitchen.set(14, 3, 7);
      amounts("4: no amounts are shared", kitchen, 15);
    }
    PolyKitchen only = kitchen(row(4));
    due("4: the only one", only.drop(0), 0);
    due("4: none is left", only.recipes(), 0);
  }

  private static PolyKitchen fullOfNumbers() {
    int[][] rows = new int[MOST_RECIPES][];
    for (int recipe = 0; recipe < MOST_RECIPES; recipe++) {
      rows[recipe] = row(recipe + 1);
    }
    return kitchen(rows);
  }

  /** "Returns its degree." */
  private static void dropReturnsTheDegree() {
    due("4: degree without parts", kitchen(NOTHING).drop(0), -1);
    for (int power = 0; power <= 8; power++) {
      due("4: degree " + power, kitchen(part(-1, power)).drop(0), power);
    }
  }

  /** "Multiplies all amounts of a recipe by a factor." */
  private static void scaleByAnyFactor() {
    for (int factor : new int[] {LEAST, LEAST + 1, -1000, -1, 0, 1, 2, 1000, GREATEST}) {
      PolyKitchen kitchen = kitchen(row(1, -1, 3, 0, 0, 0, 0, 0, 999), row(5));
      due("5: degree by " + factor, kitchen.scale(0, factor), factor == 0 ? -1 : 8);
      amounts("5: by " + factor, kitchen, 0,
          factor, -factor, 3 * factor, 0, 0, 0, 0, 0, 999 * factor);
      amounts("5: another one by " + factor, kitchen, 1, 5);
    }
  }

  /** "Returns its degree then." */
  private static void scaleReturnsTheDegreeThen() {
    due("5: degree without parts", kitchen(NOTHING).scale(0, 7), -1);
    due("5: degree of odd times the least", kitchen(row(1, 1, 2)).scale(0, LEAST), 1);
    due("5: degree of even times the least", kitchen(row(2, 4, 2)).scale(0, LEAST), -1);
    due("5: degree of 32768 times 65536", kitchen(row(1, 1, 1 << 15)).scale(0, 1 << 16), 2);
    due("5: degree of 65536 times 65536", kitchen(row(1, 1, 1 << 16)).scale(0, 1 << 16), 1);
  }

  /** "its hunger for a number of guests is then what it was for so many more." */
  private static void shiftIsForSoManyMore() {
    int[] amounts = {GREATEST, -7, 999, LEAST, 5, 0, -3, 1, 77};
    for (int more : new int[] {-20, -19, -1, 0, 1, 19, 20}) {
      PolyKitchen kitchen = kitchen(amounts, amounts);
      kitchen.shift(0, more);
      for (int guests = -22; guests <= 22; guests++) {
        int want = kitchen.hunger(1, guests + more);
        due("6: hunger after " + more + " for " + guests, kitchen.hunger(0, guests), want);
      }
    }
    PolyKitchen eighth = kitchen(part(1, 8), NOTHING);
    eighth.shift(0, -1);
    amounts("6: (x-1)8", eighth, 0, 1, -8, 28, -56, 70, -56, 28, -8, 1);
    due("6: no parts", eighth.shift(1, -20), 0);
    amounts("6: still no parts", eighth, 1);
  }

  /** "Returns its amount of the power 0 then." */
  private static void shiftReturnsTheAmountThen() {
    due("6: x by 20", kitchen(row(0, 1)).shift(0, 20), 20);
    due("6: x by -20", kitchen(row(0, 1)).shift(0, -20), -20);
    due("6: x+5 by 0", kitchen(row(5, 1)).shift(0, 0), 5);
    due("6: x-20 by 20", kitchen(row(-20, 1)).shift(0, 20), 0);
    due("6: 20x8 by 1", kitchen(part(20, 8)).shift(0, 1), 20);
  }

  // ---- promises 7 to 13

  /** "a recipe", twice: nothing says that they are two. */
  private static void newOnesOfTheSameRecipe() {
    PolyKitchen kitchen = kitchen(row(2, 1));
    due("7: with itself", kitchen.sum(0, 0), 1);
    amounts("7: twice", kitchen, 1, 4, 2);
    due("8: less itself", kitchen.difference(0, 0), 2);
    amounts("8: nothing", kitchen, 2);
    due("9: times itself", kitchen.product(0, 0), 3);
    amounts("9: its square", kitchen, 3, 4, 4, 1);
    due("10: of itself", kitchen.chain(0, 0), 4);
    amounts("10: two ahead", kitchen, 4, 4, 1);
    due("12: by itself", kitchen.divide(0, 0), 5);
    amounts("12: once", kitchen, 5, 1);
    amounts("12: without a leftover", kitchen, 6);
    due("22: agrees with itself", kitchen.agreeAt(0, 0), -20);
    due("27: is part of itself", kitchen.isPartOf(0, 0), true);
    amounts("7: it stays", kitchen, 0, 2, 1);
  }

  /** "the one that is taken off". */
  private static void differenceOfNoParts() {
    PolyKitchen kitchen = kitchen(NOTHING, row(1, -2, 0, 0, 0, 0, 0, 0, 3));
    kitchen.difference(0, 1);
    amounts("8: taken off nothing", kitchen, 2, -1, 2, 0, 0, 0, 0, 0, 0, -3);
    kitchen.difference(1, 0);
    amounts("8: nothing taken off", kitchen, 3, 1, -2, 0, 0, 0, 0, 0, 0, 3);
  }

  /** "of each power the amount of the power 1 greater, times this one." */
  private static void deriveMovesEachAmount() {
    for (int power = 0; power <= 8; power++) {
      PolyKitchen kitchen = kitchen(part(-3, power));
      due("11: number", kitchen.derive(0), 1);
      amounts("11: of -3x" + power, kitchen, 1,
          power == 0 ? NOTHING : part(-3 * power, power - 1));
    }
    PolyKitchen kitchen = kitchen(row(9, 9, 9, 9, 9, 9, 9, 9, 9), NOTHING);
    kitchen.derive(0);
    amounts("11: of all powers", kitchen, 2, 9, 18, 27, 36, 45, 54, 63, 72, 0);
    kitchen.derive(1);
    amounts("11: of no parts", kitchen, 3);
  }

  /** "the quotient; the leftover is one more, with the number behind it." */
  private static void quotientAheadOfLeftover() {
    PolyKitchen kitchen = kitchen(row(7, 0, 1), row(-2, 1), NOTHING);
    due("12: the quotient's number", kitchen.divide(0, 1), 3);
    amounts("12: the quotient", kitchen, 3, 2, 1);
    amounts("12: the leftover behind it", kitchen, 4, 11);
    due("12: of no parts", kitchen.divide(2, 1), 5);
    amounts("12: no quotient", kitchen, 5);
    amounts("12: no leftover", kitchen, 6);
    due("12: both are new ones", kitchen.recipes(), 7);
  }

  /** "Returns how many recipes there are." */
  private static void howManyRecipes() {
    PolyKitchen kitchen = new PolyKitchen();
    for (int recipes = 0; recipes < MOST_RECIPES; recipes++) {
      due("13: recipes", kitchen.recipes(), recipes);
      kitchen.addRecipe();
    }
    for (int recipes = MOST_RECIPES; recipes > 0; recipes--) {
      due("13: recipes", kitchen.recipes(), recipes);
      kitchen.drop(recipes / 2);
    }
    due("13: none again", kitchen.recipes(), 0);
  }

  // ---- promises 17 and 18

  /** "Returns the greatest number that divides all its amounts". */
  private static void contentIsTheGreatest() {
    due("17: of 1", kitchen(row(1)).content(0), 1L);
    due("17: of -1", kitchen(row(-1)).content(0), 1L);
    due("17: of one amount", kitchen(part(-12, 8)).content(0), 12L);
    due("17: zeros do not count", kitchen(row(0, -12, 0, 18, 0, 0, 0, 0, 30)).content(0), 6L);
    due("17: of numbers without a common one", kitchen(row(6, 10, 15)).content(0), 1L);
    due("17: of the greatest amount", kitchen(row(GREATEST, GREATEST)).content(0), 2147483647L);
    due("17: of the least amount", kitchen(row(0, LEAST)).content(0), 2147483648L);
    due("17: of the least amounts alone", kitchen(row(LEAST, 0, LEAST)).content(0), 2147483648L);
    due("17: of the least one and its half", kitchen(row(LEAST, 1 << 30)).content(0), 1073741824L);
    due("17: of the least and the greatest", kitchen(row(LEAST, GREATEST)).content(0), 1L);
    due("17: of two neighbours of Fibonacci", kitchen(row(1836311903, 1134903170)).content(0), 1L);
  }

  /** "0 if they are all 0." */
  private static void contentOfNoParts() {
    due("17: of no parts", kitchen(NOTHING).content(0), 0L);
    PolyKitchen kitchen = kitchen(row(0, LEAST));
    kitchen.scale(0, 2);
    due("17: of amounts that wrapped to 0", kitchen.content(0), 0L);
  }

  /** "two amounts that are not 0, with none between them but 0, have different signs." */
  private static void signChangesOverZeros() {
    due("18: next to each other", kitchen(row(1, -1)).signChanges(0), 1);
    due("18: with zeros between", kitchen(row(1, 0, 0, 0, 0, 0, 0, 0, -1)).signChanges(0), 1);
    due("18: the same sign, zeros between", kitchen(row(-1, 0, 0, -2)).signChanges(0), 0);
    due("18: there and back", kitchen(row(0, 1, 0, -1, 0, 1, 0)).signChanges(0), 2);
    due("18: 0 has no sign of its own", kitchen(row(0, -1, 0, -1)).signChanges(0), 0);
    due("18: the least and the greatest", kitchen(row(LEAST, GREATEST, LEAST)).signChanges(0), 2);
    due("18: the least and the least", kitchen(row(LEAST, LEAST)).signChanges(0), 0);
    due("18: the greatest and 1", kitchen(row(GREATEST, 1)).signChanges(0), 0);
  }

  /** "Returns how often" it is so. */
  private static void signChangesFewestAndMost() {
    due("18: without parts", kitchen(NOTHING).signChanges(0), 0);
    due("18: one part", kitchen(part(-1, 8)).signChanges(0), 0);
    due("18: all less than 0", kitchen(row(-1, -1, -1, -1, -1, -1, -1, -1, -1)).signChanges(0), 0);
    due("18: every one", kitchen(row(1, -1, 1, -1, 1, -1, 1, -1, 1)).signChanges(0), 8);
  }

  // ---- promises 19 to 24

  /** "how many guests", any number of them. */
  private static void hungerOfAnyGuests() {
    int[] amounts = {GREATEST, -7, 999, LEAST, 5, 0, -3, 1, 77};
    PolyKitchen kitchen = kitchen(amounts);
    for (int guests : new int[] {LEAST, -65536, -21, -20, -1, 0, 1, 20, 21, 65536, GREATEST}) {
      BigInteger want = BigInteger.ZERO;
      for (int power = 0; power < POWERS; power++) {
        BigInteger counted = BigInteger.valueOf(guests).pow(power);
        want = want.add(counted.multiply(BigInteger.valueOf(amounts[power])));
      }
      due("19: for " + guests, kitchen.hunger(0, guests), want.intValue());
    }
  }

  /** "for how many numbers of guests from -20 to 20 the hunger is 0." */
  private static void idleFromMinus20To20() {
    for (int guests : new int[] {-20, -19, -1, 0, 1, 19, 20}) {
      due("20: at " + guests, kitchen(row(-guests, 1)).idleGuests(0), 1);
    }
    for (int guests : new int[] {-22, -21, 21, 22}) {
      due("20: too far at " + guests, kitchen(row(-guests, 1)).idleGuests(0), 0);
    }
    due("20: at both ends", kitchen(row(-400, 0, 1)).idleGuests(0), 2);
    due("20: a hunger that wraps to 0", kitchen(row(0, LEAST)).idleGuests(0), 21);
    due("20: the others", kitchen(row(LEAST, LEAST)).idleGuests(0), 20);
  }

  private static void idleNoneAndAll() {
    due("20: none", kitchen(row(1)).idleGuests(0), 0);
    due("20: none of the least", kitchen(row(LEAST)).idleGuests(0), 0);
    due("20: all", kitchen(NOTHING).idleGuests(0), 41);
  }

  /** "the smallest number of guests from -20 to 20 for which the hunger is 0". */
  private static void firstIdleFromMinus20To20() {
    for (int guests : new int[] {-20, -19, -1, 0, 1, 19, 20}) {
      due("21: at " + guests, kitchen(row(-guests, 1)).firstIdle(0), guests);
    }
    for (int guests : new int[] {-22, -21, 21, 22}) {
      due("21: too far at " + guests, kitchen(row(-guests, 1)).firstIdle(0), 99);
    }
  }

  private static void firstIdleIsTheSmallest() {
    due("21: of -20 and 20", kitchen(row(-400, 0, 1)).firstIdle(0), -20);
    due("21: of -3, 1 and 2", kitchen(row(6, -7, 0, 1)).firstIdle(0), -3);
    due("21: of 0 and 5", kitchen(row(0, -5, 1)).firstIdle(0), 0);
    due("21: of -21 and 20", kitchen(row(-420, 1, 1)).firstIdle(0), 20);
    due("21: of all", kitchen(NOTHING).firstIdle(0), -20);
    due("21: of those that wrap to 0", kitchen(row(LEAST, LEAST)).firstIdle(0), -19);
  }

  /** "99 if there is none." */
  private static void firstIdleNone() {
    due("21: none", kitchen(row(1)).firstIdle(0), 99);
    due("21: none of x2+1", kitchen(row(1, 0, 1)).firstIdle(0), 99);
    due("21: 99 itself is too far", kitchen(row(-99, 1)).firstIdle(0), 99);
  }

  /** "the smallest number of guests from -20 to 20 for which both hungers are the same". */
  private static void agreeFromMinus20To20() {
    for (int guests : new int[] {-20, -19, -1, 0, 1, 19, 20}) {
      PolyKitchen kitchen = kitchen(row(7, 3), row(7 + guests, 2));
      due("22: at " + guests, kitchen.agreeAt(0, 1), guests);
      due("22: the other way at " + guests, kitchen.agreeAt(1, 0), guests);
    }
    for (int guests : new int[] {-22, -21, 21, 22}) {
      PolyKitchen kitchen = kitchen(row(7, 3), row(7 + guests, 2));
      due("22: too far at " + guests, kitchen.agreeAt(0, 1), 99);
    }
  }

  private static void agreeIsTheSmallest() {
    due("22: of -20 and 20", kitchen(part(1, 2), row(400)).agreeAt(0, 1), -20);
    due("22: of -21 and 20", kitchen(part(1, 2), row(420, -1)).agreeAt(0, 1), 20);
    due("22: of 0 and 1", kitchen(part(1, 2), part(1, 1)).agreeAt(0, 1), 0);
    due("22: of all", kitchen(row(3, 1), row(3, 1)).agreeAt(0, 1), -20);
    due("22: of no parts", kitchen(NOTHING, NOTHING).agreeAt(0, 1), -20);
    due("22: of those that wrap", kitchen(row(0, LEAST), row(LEAST)).agreeAt(0, 1), -19);
    due("22: of the least one alone", kitchen(row(GREATEST, 1), row(LEAST)).agreeAt(0, 1), 1);
  }

  /** "99 if there is none." */
  private static void agreeNone() {
    due("22: none", kitchen(row(1), row(-1)).agreeAt(0, 1), 99);
    due("22: none of x2+1 and no parts", kitchen(row(1, 0, 1), NOTHING).agreeAt(0, 1), 99);
    due("22: none of the least and its half", kitchen(row(LEAST), row(1 << 30)).agreeAt(0, 1), 99);
  }

  /** "the number of guests from 1 to 20 for which the hunger is the least". */
  private static void cheapestFrom1To20() {
    for (int guests = 1; guests <= 20; guests++) {
      PolyKitchen kitchen = kitchen(row(guests * guests, -2 * guests, 1));
      due("23: at " + guests, kitchen.cheapest(0), guests);
    }
    due("23: 0 is not looked at", kitchen(part(1, 2)).cheapest(0), 1);
    due("23: -1 is not looked at", kitchen(row(1, 2, 1)).cheapest(0), 1);
    due("23: 21 is not looked at", kitchen(row(441, -42, 1)).cheapest(0), 20);
    due("23: 22 is not looked at", kitchen(part(-1, 1)).cheapest(0), 20);
  }

  /** "of several the smallest." */
  private static void cheapestOfSeveral() {
    due("23: of 1 and 2", kitchen(row(2, -3, 1)).cheapest(0), 1);
    due("23: of 10 and 11", kitchen(row(110, -21, 1)).cheapest(0), 10);
    due("23: of 19 and 20", kitchen(row(380, -39, 1)).cheapest(0), 19);
    due("23: of all", kitchen(row(-7)).cheapest(0), 1);
    due("23: of no parts", kitchen(NOTHING).cheapest(0), 1);
    due("23: of the even ones", kitchen(row(LEAST, LEAST)).cheapest(0), 2);
    due("23: of the odd ones", kitchen(row(0, LEAST)).cheapest(0), 1);
  }

  private static void cheapestOfWrappedHungers() {
    due("23: the least hunger at 20", kitchen(row(GREATEST - 19, 1)).cheapest(0), 20);
    due("23: the least hunger at 21", kitchen(row(GREATEST - 20, 1)).cheapest(0), 1);
    due("23: the least hunger at 2", kitchen(row(GREATEST - 1, 1)).cheapest(0), 2);
    due("23: the least hunger at 1", kitchen(row(GREATEST, 1)).cheapest(0), 1);
    due("23: the greatest hunger at 2", kitchen(row(LEAST + 1, -1)).cheapest(0), 1);
  }

  /** "the hungers for 1 to this number of guests, added as 64-bit integers". */
  private static void hungersAddedAs64Bits() {
    due("24: of 1 alone", kitchen(row(5, 1)).hungerUpTo(0, 1), 6L);
    due("24: of 1 and 2", kitchen(row(5, 1)).hungerUpTo(0, 2), 13L);
    due("24: 0 does not count", kitchen(row(0, 0, 1)).hungerUpTo(0, 50), 42925L);
    due("24: of no parts", kitchen(NOTHING).hungerUpTo(0, 50), 0L);
    due("24: 32 bits are enough", kitchen(row(GREATEST)).hungerUpTo(0, 1), 2147483647L);
    due("24: 32 bits are too few", kitchen(row(GREATEST)).hungerUpTo(0, 2), 4294967294L);
    due("24: the greatest", kitchen(row(GREATEST)).hungerUpTo(0, 50), 107374182350L);
    due("24: the least", kitchen(row(LEAST)).hungerUpTo(0, 50), -107374182400L);
    PolyKitchen wrapping = kitchen(row(GREATEST, 1));
    due("24: each hunger wraps at 32 bits", wrapping.hungerUpTo(0, 1), -2147483648L);
    due("24: and the next", wrapping.hungerUpTo(0, 2), -4294967295L);
  }

  // ---- promises 25 to 27

  /** "Returns how many characters its text has." */
  private static void textLengthShortestAndLongest() {
    due("25: without parts", kitchen(NOTHING).textLength(0), 1);
    due("25: 1", kitchen(row(1)).textLength(0), 1);
    due("25: x", kitchen(row(0, 1)).textLength(0), 1);
    due("25: -x8", kitchen(part(-1, 8)).textLength(0), 3);
    int[] all = new int[POWERS];
    java.util.Arrays.fill(all, LEAST);
    PolyKitchen longest = kitchen(all);
    due("25: the longest", longest.textLength(0), 114);
    due("26: the last place of the longest", longest.textAt(0, 113), (int) '8');
    due("26: the place 0 of the longest", longest.textAt(0, 0), (int) '-');
    java.util.Arrays.fill(all, GREATEST);
    due("25: the longest without -", kitchen(all).textLength(0), 113);
  }

  /** "whether by is plain, and the leftover of dividing the first one by it has no parts". */
  private static void partOnlyOfPlainOnes() {
    for (int[] by : new int[][] {NOTHING, row(-1), row(2), row(0, 2), row(1, -1)}) {
      due("27: by one that is not plain", kitchen(NOTHING, by).isPartOf(0, 1), false);
      due("27: itself, which is not plain", kitchen(by).isPartOf(0, 0), false);
    }
    for (int power = 0; power <= 8; power++) {
      due("27: of no parts", kitchen(NOTHING, part(1, power)).isPartOf(0, 1), true);
    }
    Maker most = () -> full(row(2, 3, 1), row(1, 1), row(5, 1));
    asked("27: nothing is changed", most, k -> k.isPartOf(0, 1), true);
    asked("27: nor if it is none", most, k -> k.isPartOf(0, 2), false);
  }

  private static void partWithoutLeftover() {
    int[] cube = part(1, 3);
    due("27: no leftover", kitchen(part(5, 3), cube).isPartOf(0, 1), true);
    due("27: no leftover of degree 8", kitchen(part(5, 8), cube).isPartOf(0, 1), true);
    for (int power = 0; power < 3; power++) {
      due("27: a leftover of degree " + power, kitchen(part(5, power), cube).isPartOf(0, 1), false);
      int[] more = row(0, 0, 0, 1);
      more[power] = LEAST;
      due("27: some of degree " + power, kitchen(more, cube).isPartOf(0, 1), false);
    }
    due("27: by 1 nothing is left over", kitchen(row(9, 9, 9), row(1)).isPartOf(0, 1), true);
    due("27: a leftover of 1", kitchen(row(3, 3, 1), row(1, 1)).isPartOf(0, 1), false);
    PolyKitchen wrapping = kitchen(row(LEAST, 0, 1 << 29), row(2, 1));
    due("27: a leftover that wraps to 0", wrapping.isPartOf(0, 1), true);
    due("27: as great", kitchen(row(1, 1), row(1, 1)).isPartOf(0, 1), true);
    due("27: a greater degree", kitchen(row(1, 1), row(1, 2, 1)).isPartOf(0, 1), false);
  }

  // ---- promise 28

  /** "divided by x less a number from -20 to 20 without a leftover". */
  private static void plainPartsFromMinus20To20() {
    for (int number : new int[] {-20, -19, -1, 0, 1, 19, 20}) {
      due("28: x less " + number, kitchen(row(-number, 1)).plainParts(0), 1);
      due("28: 7x less as much", kitchen(row(-7 * number, 7)).plainParts(0), 1);
    }
    for (int number : new int[] {-22, -21, 21, 22}) {
      due("28: x less " + number, kitchen(row(-number, 1)).plainParts(0), 0);
    }
    due("28: x2-400", kitchen(row(-400, 0, 1)).plainParts(0), 2);
    due("28: x2-441", kitchen(row(-441, 0, 1)).plainParts(0), 0);
    due("28: (x+21)(x-20)", kitchen(row(-420, 1, 1)).plainParts(0), 1);
  }

  /** "the smallest numbers first": the order counts, since the amounts wrap around. */
  private static void plainPartsSmallestFirst() {
    due("28: x8, first less -16", kitchen(part(1, 8)).plainParts(0), 2);
    PolyKitchen kitchen = kitchen(row(3, -1, -3, 1));
    kitchen.scale(0, 1 << 28);
    due("28: 268435456(x-3)(x-1)(x+1), first less -19", kitchen.plainParts(0), 1);
    due("28: the least amount of x, first less -20", kitchen(part(LEAST, 1)).plainParts(0), 1);
  }

  /** "each as often as it can be". */
  private static void plainPartsAsOftenAsCanBe() {
    due("28: (x-1)2", kitchen(row(1, -2, 1)).plainParts(0), 2);
    due("28: (x-1)3", kitchen(row(-1, 3, -3, 1)).plainParts(0), 3);
    due("28: x7", kitchen(part(1, 7)).plainParts(0), 7);
    due("28: (x+20)2", kitchen(row(400, 40, 1)).plainParts(0), 2);
    due("28: (x-20)2", kitchen(row(400, -40, 1)).plainParts(0), 2);
    PolyKitchen eight = kitchen(part(1, 8));
    eight.shift(0, 20);
    due("28: (x+20)8", eight.plainParts(0), 8);
    due("28: (x+1)2(x2+1)", kitchen(row(1, 2, 2, 2, 1)).plainParts(0), 2);
  }

  /** "0 for a recipe without parts (nothing is changed)." */
  private static void plainPartsOfNoParts() {
    asked("28: no parts", () -> full(NOTHING), k -> k.plainParts(0), 0);
    asked("28: 1", () -> full(row(1)), k -> k.plainParts(0), 0);
    asked("28: the least amount", () -> full(row(LEAST)), k -> k.plainParts(0), 0);
    asked("28: nothing is changed", () -> full(row(-1, 3, -3, 1)), k -> k.plainParts(0), 3);
  }

  // ---- promise 29

  /** "the number of guests from -20 to 20 by which it had best be shifted". */
  private static void bestShiftFromMinus20To20() {
    for (int guests : new int[] {-20, -19, -1, 0, 1, 19, 20}) {
      due("29: x less " + guests, kitchen(row(-guests, 1)).bestShift(0), guests);
      due("29: its square", kitchen(row(guests * guests, -2 * guests, 1)).bestShift(0), guests);
    }
    for (int guests : new int[] {-22, -21, 21, 22}) {
      due("29: x less " + guests, kitchen(row(-guests, 1)).bestShift(0), 0);
      due("29: its square", kitchen(row(guests * guests, -2 * guests, 1)).bestShift(0), 0);
    }
    PolyKitchen eight = kitchen(part(1, 8));
    eight.shift(0, -7);
    due("29: (x-7)8", eight.bestShift(0), 7);
    asked("29: nothing is changed", () -> full(row(9, -6, 1)), k -> k.bestShift(0), 3);
  }

  /** "so that the fewest of its amounts are not 0, of several the one nearest to 0". */
  private static void bestShiftNearestTo0() {
    due("29: of 3, 4 and 5", kitchen(row(15, -8, 1)).bestShift(0), 3);
    due("29: of -5, -4 and -3", kitchen(row(15, 8, 1)).bestShift(0), -3);
    due("29: of -1, 0 and 1", kitchen(row(-1, 0, 1)).bestShift(0), 0);
    due("29: of 20 and 21", kitchen(row(420, -41, 1)).bestShift(0), 20);
    due("29: of all, no parts", kitchen(NOTHING).bestShift(0), 0);
    due("29: of all, a number", kitchen(row(5)).bestShift(0), 0);
    due("29: fewer ones farther off", kitchen(row(-24, 26, -9, 1)).bestShift(0), 3);
    due("29: of the odd ones", kitchen(row(LEAST, LEAST)).bestShift(0), 1);
  }

  /** "of two as near the greater one". */
  private static void bestShiftTheGreaterOfTwo() {
    due("29: of -2 and 2", kitchen(row(-12, -4, -1, 1, 1)).bestShift(0), 2);
    due("29: of -20 and 20", kitchen(row(-1200, -400, -397, 1, 1)).bestShift(0), 20);
    due("29: of -1 and 1, which wrap", kitchen(row(LEAST, 0, LEAST)).bestShift(0), 1);
    due("29: -2 has fewer than 2", kitchen(row(6, 5, 1)).bestShift(0), -2);
  }

  // ---- promises 30 and 31

  /** "0 without any." */
  private static void meanDegreeWithoutAny() {
    due("30: none", new PolyKitchen().meanDegree(), 0.0);
    PolyKitchen kitchen = kitchen(part(1, 8));
    due("30: one", kitchen.meanDegree(), 8.0);
    kitchen.drop(0);
    due("30: none again", kitchen.meanDegree(), 0.0);
  }

  /** "Returns the mean degree of recipes". */
  private static void meanDegreeOfAll() {
    due("30: no parts", kitchen(NOTHING).meanDegree(), -1.0);
    due("30: -1 and 0", kitchen(NOTHING, row(3)).meanDegree(), -0.5);
    due("30: -1 and 1", kitchen(NOTHING, part(3, 1)).meanDegree(), 0.0);
    due("30: a third", kitchen(part(3, 1), row(3), row(3)).meanDegree(), 1.0 / 3);
    due("30: 16 without parts", full().meanDegree(), -1.0);
    due("30: 15 without parts", full(part(1, 8)).meanDegree(), -7.0 / 16);
    int[][] rows = new int[MOST_RECIPES][];
    java.util.Arrays.fill(rows, part(1, 8));
    due("30: 16 of degree 8", kitchen(rows).meanDegree(), 8.0);
  }

  /** "A number d starts with 2179"; "d becomes d * 31 + x": "recipes()". */
  private static void digestStartsWith2179() {
    due("31: none", new PolyKitchen().digest(), 67549L);
    PolyKitchen kitchen = kitchen(row(1));
    kitchen.drop(0);
    due("31: none again", kitchen.digest(), 67549L);
  }

  /** "then for each recipe ..., and amountOf() of the powers 0 to 8." */
  private static void digestOfEachNumber() {
    due("31: no parts", kitchen(NOTHING).digest(),
        folded(1, -1, 0, 0, 0, 0, 41, -20, 1, 1, 0, 0, 0, 0, 0, 0, 0, 0, 0, 0, 0));
    due("31: 6x8", kitchen(part(6, 8)).digest(),
        folded(1, 8, 0, 6, 0, 39366, 3, -16, 15, 3, 2, 0, 0, 0, 0, 0, 0, 0, 0, 0, 6));
    due("31: x2-5x+6", kitchen(row(6, -5, 1)).digest(),
        folded(1, 2, 1, 1, 2, 0, 2, 2, 2, 7, 2, 2, 6, -5, 1, 0, 0, 0, 0, 0, 0));
    due("31: two", kitchen(row(6, -5, 1), row(LEAST, 0, 1 << 30)).digest(),
        folded(2, 2, 1, 1, 2, 0, 2, 2, 2, 7, 2, 2, 6, -5, 1, 0, 0, 0, 0, 0, 0,
            2, 0, 1 << 30, 1, -1 << 30, 0, 99, 2, 23, 0, 0, LEAST, 0, 1 << 30, 0, 0, 0, 0, 0, 0));
  }

  /** "which wraps around as a 64-bit integer". */
  private static void digestWrapsAround() {
    for (int recipes : new int[] {1, 2, 16}) {
      int[][] rows = new int[recipes][];
      java.util.Arrays.fill(rows, NOTHING);
      long[] numbers = new long[1 + 20 * recipes];
      numbers[0] = recipes;
      for (int recipe = 0; recipe < recipes; recipe++) {
        numbers[1 + 20 * recipe] = -1;
        numbers[6 + 20 * recipe] = 41;
        numbers[7 + 20 * recipe] = -20;
        numbers[8 + 20 * recipe] = 1;
        numbers[9 + 20 * recipe] = 1;
      }
      due("31: of " + recipes, kitchen(rows).digest(), folded(numbers));
    }
  }

  private static long folded(long... numbers) {
    BigInteger d = BigInteger.valueOf(2179);
    for (long number : numbers) {
      d = d.multiply(BigInteger.valueOf(31)).add(BigInteger.valueOf(number));
    }
    return d.longValue();
  }
}
