/** The sentences of the document's terms that name an edge, each with a test of its own. */
public final class TermsEdgesTest extends Cases {
  private static final int LAST_CALL = 512;
  private static final int HALF = 1 << 30;

  private TermsEdgesTest() {}

  public static void main(String[] args) {
    anObjectIsUsedForAtMost512Calls();
    amountsAre32Bits();
    sumsWrapAround();
    differencesWrapAround();
    scaledAmountsWrapAround();
    shiftedAmountsWrapAround();
    productsWrapAround();
    chainsWrapAround();
    derivedAmountsWrapAround();
    quotientsWrapAround();
    leftoversWrapAround();
    hungersWrapAround();
    atMost16RecipesNumberedFrom0();
    powers0To8();
    zeroForAllAtFirst();
    degreeIsTheGreatestPower();
    degreeOfNoParts();
    plainWithDegree0OrMore();
    plainWithAmount1();
    power0CountsOneForNoGuests();
    guestsLessThanZero();
    chainsPower0();
    chainsHunger();
    leftoverHasASmallerDegree();
    quotientAndLeftoverGiveTheRecipe();
    textsGreatestPowerFirst();
    textsSigns();
    textsFirstPart();
    textsDigits();
    textsPowers();
    textWithoutParts();
    end("TermsEdgesTest");
  }

  /** "An object is used for at most 512 calls after it has been made". */
  private static void anObjectIsUsedForAtMost512Calls() {
    due("Terms, 512th call, an answer", afterMostCalls().hunger(0, 2), 1022);
    due("Terms, 512th call, a change", afterMostCalls().addRecipe(), 1);
    PolyKitchen kitchen = afterMostCalls();
    due("Terms, 512th call, refused", Calls.outcome(kitchen, "drop", 1),
        "throws.IndexOutOfBoundsException");
  }

  /** After 511 calls, the last of which set the amount of the power 1 to 511. */
  private static PolyKitchen afterMostCalls() {
    PolyKitchen kitchen = new PolyKitchen();
    kitchen.addRecipe();
    for (int call = 2; call < LAST_CALL; call++) {
      kitchen.set(0, 1, call);
    }
    return kitchen;
  }

  // ---- "Amounts, and all sums, differences and products of them, are 32-bit integers, which wrap
  // around."

  private static void amountsAre32Bits() {
    PolyKitchen kitchen = kitchen(row(GREATEST, LEAST));
    amounts("Terms, the greatest and the least amount", kitchen, 0, GREATEST, LEAST);
    due("Terms, the greatest amount before", kitchen.set(0, 0, 1), GREATEST);
    due("Terms, the least amount before", kitchen.set(0, 1, 1), LEAST);
  }

  private static void sumsWrapAround() {
    PolyKitchen kitchen = kitchen(
        row(GREATEST, LEAST, 0, 0, 0, 0, 0, 0, GREATEST), row(), row(1, -1, 0, 0, 0, 0, 0, 0, 1));
    kitchen.sum(0, 1);
    amounts("Terms, sums that just fit", kitchen, 3, GREATEST, LEAST, 0, 0, 0, 0, 0, 0, GREATEST);
    kitchen.sum(0, 2);
    amounts("Terms, sums that wrap", kitchen, 4, LEAST, GREATEST, 0, 0, 0, 0, 0, 0, LEAST);
    kitchen.sum(0, 0);
    amounts("Terms, sums that wrap to 0", kitchen, 5, -2, 0, 0, 0, 0, 0, 0, 0, -2);
  }

  private static void differencesWrapAround() {
    PolyKitchen kitchen = kitchen(row(GREATEST, LEAST), row(0, 0), row(-1, 1), row(0, LEAST));
    kitchen.difference(0, 1);
    amounts("Terms, differences that just fit", kitchen, 4, GREATEST, LEAST);
    kitchen.difference(0, 2);
    amounts("Terms, differences that wrap", kitchen, 5, LEAST, GREATEST);
    kitchen.difference(1, 3);
    amounts("Terms, 0 less the least amount", kitchen, 6, 0, LEAST);
    kitchen.difference(2, 3);
    amounts("Terms, 1 less the least amount", kitchen, 7, -1, LEAST + 1);
  }

  private static void scaledAmountsWrapAround() {
    PolyKitchen kitchen = kitchen(row(HALF - 1, HALF, -HALF, -HALF - 1), row(GREATEST, LEAST));
    kitchen.scale(0, 2);
    amounts("Terms, amounts times 2", kitchen, 0, GREATEST - 1, LEAST, LEAST, GREATEST - 1);
    kitchen.scale(1, -1);
    amounts("Terms, amounts times -1", kitchen, 1, -GREATEST, LEAST);
    PolyKitchen roots = kitchen(row(46340, 46341));
    roots.scale(0, 46340);
    amounts("Terms, amounts times 46340", roots, 0, 2147395600, 2147441940);
    PolyKitchen wrapped = kitchen(row(46340, 46341));
    wrapped.scale(0, 46341);
    amounts("Terms, amounts times 46341", wrapped, 0, 2147441940, -2147479015);
  }

  private static void shiftedAmountsWrapAround() {
    int[] most = row(GREATEST - 1, 1);
    due("Terms, a shift that just fits", kitchen(most).shift(0, 1), GREATEST);
    due("Terms, a shift that wraps", kitchen(most).shift(0, 2), LEAST);
    int[] least = row(LEAST + 1, 1);
    due("Terms, a shift back that just fits", kitchen(least).shift(0, -1), LEAST);
    due("Terms, a shift back that wraps", kitchen(least).shift(0, -2), GREATEST);
    PolyKitchen kitchen = kitchen(row(0, GREATEST, HALF));
    kitchen.shift(0, 1);
    amounts("Terms, a shift that wraps the power 1", kitchen, 0, GREATEST + HALF, -1, HALF);
  }

  private static void productsWrapAround() {
    PolyKitchen kitchen = kitchen(part(46340, 4), part(46341, 4), row(GREATEST, 1), row(1, 1));
    kitchen.product(0, 0);
    amounts("Terms, a product that just fits", kitchen, 4, part(2147395600, 8));
    kitchen.product(1, 1);
    amounts("Terms, a product that wraps", kitchen, 5, part(-2147479015, 8));
    kitchen.product(2, 3);
    amounts("Terms, a product's sum that wraps", kitchen, 6, GREATEST, LEAST, 1);
  }

  private static void chainsWrapAround() {
    PolyKitchen kitchen = kitchen(
        part(1, 2), row(46340), row(46341), row(GREATEST, 1), row(1), row());
    kitchen.chain(0, 1);
    amounts("Terms, a chain that just fits", kitchen, 6, 2147395600);
    kitchen.chain(0, 2);
    amounts("Terms, a chain that wraps", kitchen, 7, -2147479015);
    kitchen.chain(3, 5);
    amounts("Terms, a chain's sum that just fits", kitchen, 8, GREATEST);
    kitchen.chain(3, 4);
    amounts("Terms, a chain's sum that wraps", kitchen, 9, LEAST);
  }

  private static void derivedAmountsWrapAround() {
    int eighth = 1 << 28;
    PolyKitchen kitchen = kitchen(
        row(0, GREATEST, HALF - 1, 0, 0, 0, 0, 0, eighth - 1),
        row(0, LEAST, HALF, 0, 0, 0, 0, 0, eighth));
    kitchen.derive(0);
    amounts("Terms, amounts that just fit when derived", kitchen, 2,
        GREATEST, GREATEST - 1, 0, 0, 0, 0, 0, GREATEST - 7);
    kitchen.derive(1);
    amounts("Terms, amounts that wrap when derived", kitchen, 3,
        LEAST, LEAST, 0, 0, 0, 0, 0, LEAST);
  }

  private static void quotientsWrapAround() {
    PolyKitchen kitchen = kitchen(row(0, LEAST + 1, 1), row(0, LEAST, 1), row(1, 1));
    kitchen.divide(0, 2);
    amounts("Terms, a quotient that just fits", kitchen, 3, LEAST, 1);
    kitchen.divide(1, 2);
    amounts("Terms, a quotient that wraps", kitchen, 5, GREATEST, 1);
    amounts("Terms, what is left over then", kitchen, 6, -GREATEST);
  }

  private static void leftoversWrapAround() {
    PolyKitchen kitchen = kitchen(row(GREATEST - 1, 0, 1), row(GREATEST, 0, 1), row(1, 1));
    kitchen.divide(0, 2);
    amounts("Terms, a leftover that just fits", kitchen, 4, GREATEST);
    kitchen.divide(1, 2);
    amounts("Terms, a leftover that wraps", kitchen, 6, LEAST);
  }

  private static void hungersWrapAround() {
    PolyKitchen kitchen = kitchen(row(GREATEST, 1), row(LEAST, 1), part(1, 2), part(1, 8));
    due("Terms, the greatest hunger", kitchen.hunger(0, 0), GREATEST);
    due("Terms, a hunger that wraps", kitchen.hunger(0, 1), LEAST);
    due("Terms, the least hunger", kitchen.hunger(1, 0), LEAST);
    due("Terms, a hunger that wraps back", kitchen.hunger(1, -1), GREATEST);
    due("Terms, a power that just fits", kitchen.hunger(2, 46340), 2147395600);
    due("Terms, a power that wraps", kitchen.hunger(2, 46341), -2147479015);
    due("Terms, 14 to the power 8", kitchen.hunger(3, 14), 1475789056);
    due("Terms, 15 to the power 8", kitchen.hunger(3, 15), -1732076671);
    due("Terms, 16 to the power 8", kitchen.hunger(3, 16), 0);
  }

  // ---- "At most 16, numbered from 0; each has an amount for each of the powers 0 to 8 (0 for all,
  // at first). Its degree is the greatest power whose amount is not 0; -1 if there is none. It is
  // plain, if its degree is 0 or more and the amount of that power is 1."

  private static void atMost16RecipesNumberedFrom0() {
    PolyKitchen kitchen = new PolyKitchen();
    for (int number = 0; number < MOST_RECIPES; number++) {
      due("Terms, the number of a recipe", kitchen.addRecipe(), number);
      kitchen.set(number, 0, number + 1);
    }
    for (int number = 0; number < MOST_RECIPES; number++) {
      amounts("Terms, each recipe has amounts of its own", kitchen, number, number + 1);
    }
    refused("Terms, a 17th recipe", STATE, Cases::full, k -> k.addRecipe());
  }

  private static void powers0To8() {
    PolyKitchen kitchen = kitchen(row(), row());
    for (int power = 0; power <= 8; power++) {
      due("Terms, no amount at first", kitchen.set(0, power, 10 + power), 0);
    }
    amounts("Terms, each power has its own", kitchen, 0, 10, 11, 12, 13, 14, 15, 16, 17, 18);
    amounts("Terms, and each recipe", kitchen, 1);
    Maker one = () -> kitchen(row(1, 1));
    refused("Terms, no power -1", INDEX, one, k -> k.set(0, -1, 1));
    refused("Terms, no power 9", INDEX, one, k -> k.set(0, 9, 1));
  }

  private static void zeroForAllAtFirst() {
    int[] all = row(1, 2, 3, 4, 5, 6, 7, 8, 9);
    PolyKitchen kitchen = full(all, all, all);
    for (int recipe = 3; recipe < MOST_RECIPES; recipe++) {
      amounts("Terms, 0 for all at first", kitchen, recipe);
    }
    PolyKitchen dropped = kitchen(all);
    dropped.drop(0);
    amounts("Terms, 0 for all where one was dropped", dropped, dropped.addRecipe());
  }

  private static void degreeIsTheGreatestPower() {
    for (int power = 0; power <= 8; power++) {
      due("Terms, degree of one part", kitchen(part(-3, power)).degreeOf(0), power);
      PolyKitchen kitchen = kitchen(row(1, 1, 1, 1, 1, 1, 1, 1, 1));
      for (int above = power + 1; above <= 8; above++) {
        kitchen.set(0, above, 0);
      }
      due("Terms, degree of all parts up to " + power, kitchen.degreeOf(0), power);
    }
  }

  private static void degreeOfNoParts() {
    PolyKitchen kitchen = kitchen(row());
    due("Terms, degree without parts", kitchen.degreeOf(0), -1);
    kitchen.set(0, 0, 1);
    due("Terms, degree of the amount 1 alone", kitchen.degreeOf(0), 0);
    kitchen.set(0, 0, 0);
    due("Terms, degree after it was set to 0", kitchen.degreeOf(0), -1);
    PolyKitchen least = kitchen(part(LEAST, 8));
    due("Terms, degree of the least amount", least.degreeOf(0), 8);
    least.scale(0, 2);
    due("Terms, degree after it wrapped to 0", least.degreeOf(0), -1);
  }

  private static void plainWithDegree0OrMore() {
    due("Terms, no parts are not plain", kitchen(row()).isPlain(0), false);
    for (int power = 0; power <= 8; power++) {
      due("Terms, plain of the power " + power, kitchen(part(1, power)).isPlain(0), true);
    }
  }

  private static void plainWithAmount1() {
    for (int amount : new int[] {-1, 0x10001, 2, -2, 3, GREATEST, LEAST, LEAST + 1}) {
      due("Terms, plain with " + amount, kitchen(row(1, 1, amount)).isPlain(0), false);
      due("Terms, plain in spite of " + amount, kitchen(row(amount, amount, 1)).isPlain(0), true);
    }
  }

  // ---- "the power 0 counts 1, also for 0 guests", "Guests can be less than 0."

  private static void power0CountsOneForNoGuests() {
    due("Terms, the power 0 for 0 guests", kitchen(row(7)).hunger(0, 0), 7);
    due("Terms, the power 1 for 0 guests", kitchen(part(7, 1)).hunger(0, 0), 0);
    due("Terms, all powers for 0 guests", kitchen(row(5, 1, 1, 1, 1, 1, 1, 1, 1)).hunger(0, 0), 5);
    due("Terms, no parts for 0 guests", kitchen(row()).hunger(0, 0), 0);
    due("Terms, the power 0 for 1 guest", kitchen(row(7)).hunger(0, 1), 7);
    due("Terms, the power 0 for -1 guests", kitchen(row(7)).hunger(0, -1), 7);
  }

  private static void guestsLessThanZero() {
    PolyKitchen kitchen = kitchen(row(5, 3, 2), part(1, 7), part(1, 8));
    due("Terms, 1 guest", kitchen.hunger(0, 1), 10);
    due("Terms, -1 guests", kitchen.hunger(0, -1), 4);
    due("Terms, -1 guests, an odd power", kitchen.hunger(1, -1), -1);
    due("Terms, -1 guests, an even power", kitchen.hunger(2, -1), 1);
    due("Terms, -1000 guests", kitchen.hunger(0, -1000), 1997005);
    due("Terms, the fewest guests", kitchen.hunger(0, LEAST), LEAST + 5);
    due("Terms, the most guests", kitchen.hunger(0, GREATEST), LEAST + 4);
  }

  // ---- "The chain of two: of each power of the first one its amount times the product of so many
  // recipes like the second one (1 for the power 0), all added; so its hunger is that of the first
  // one for as many guests as the hunger of the second one is."

  private static void chainsPower0() {
    PolyKitchen kitchen = kitchen(row(5), row(), row(5, 4, 3), part(1, 8), row(0, 4));
    kitchen.chain(0, 1);
    amounts("Terms, a power 0 of no parts counts 1", kitchen, 5, 5);
    kitchen.chain(2, 1);
    amounts("Terms, only the power 0 of no parts counts", kitchen, 6, 5);
    kitchen.chain(0, 3);
    amounts("Terms, a power 0 of x8 counts 1", kitchen, 7, 5);
    kitchen.chain(4, 1);
    amounts("Terms, a power 1 of no parts counts 0", kitchen, 8);
  }

  private static void chainsHunger() {
    PolyKitchen kitchen = kitchen(row(3, -2, 0, 0, 5), row(-7, 1, 4), row(999, 0, -999));
    kitchen.chain(0, 1);
    kitchen.chain(2, 0);
    for (int guests = -20; guests <= 20; guests++) {
      int hunger = 4 * guests * guests + guests - 7;
      due("Terms, hunger of a chain", kitchen.hunger(3, guests), kitchen.hunger(0, hunger));
      int inner = kitchen.hunger(0, guests);
      due("Terms, wrapped hunger of a chain", kitchen.hunger(4, guests), kitchen.hunger(2, inner));
    }
  }

  // ---- "the quotient and the leftover, a recipe with a smaller degree than the plain one, so that
  // the quotient times the plain one, and the leftover, added, are the recipe."

  private static void leftoverHasASmallerDegree() {
    for (int degree = 0; degree <= 8; degree++) {
      PolyKitchen kitchen = kitchen(row(1, 1, 1, 1, 1, 1, 1, 1, 1), part(1, degree));
      kitchen.divide(0, 1);
      due("Terms, degree of the quotient by x" + degree, kitchen.degreeOf(2), 8 - degree);
      due("Terms, degree of the leftover by x" + degree, kitchen.degreeOf(3), degree - 1);
    }
    PolyKitchen kitchen = kitchen(row(1, 2, 3), row(4, 5, 1), row(4, 5, 6, 1));
    kitchen.divide(0, 1);
    amounts("Terms, the quotient of as great a degree", kitchen, 3, 3);
    amounts("Terms, the leftover of as great a degree", kitchen, 4, -11, -13);
    kitchen.divide(0, 2);
    amounts("Terms, the quotient of a degree 1 less", kitchen, 5);
    amounts("Terms, the leftover of a degree 1 less", kitchen, 6, 1, 2, 3);
  }

  private static void quotientAndLeftoverGiveTheRecipe() {
    int[] recipe = row(GREATEST, -2, 5, LEAST, 7, 1, 0, 999, -4);
    for (int[] by : new int[][] {row(1), row(LEAST, 1), row(-7, GREATEST, 1), row(3, 0, 0, -5, 1),
        row(1, 2, 3, 4, 5, 6, 7, 1), row(9, 9, 9, 9, 9, 9, 9, 9, 1)}) {
      PolyKitchen kitchen = kitchen(recipe, by);
      kitchen.divide(0, 1);
      int product = kitchen.product(2, 1);
      amounts("Terms, quotient and leftover", kitchen, kitchen.sum(product, 3), recipe);
    }
  }

  // ---- the text of a recipe

  /** "the parts of the powers with amounts that are not 0, the greatest power first". */
  private static void textsGreatestPowerFirst() {
    text("Terms, all parts", "10x8+9x7+8x6+7x5+6x4+5x3+4x2+3x+2", row(2, 3, 4, 5, 6, 7, 8, 9, 10));
    text("Terms, no parts of 0", "9x8+2", row(2, 0, 0, 0, 0, 0, 0, 0, 9));
  }

  /** "A part begins with - if the amount is less than 0, otherwise with +". */
  private static void textsSigns() {
    text("Terms, signs", "2x3-2x2+2x-2", row(-2, 2, -2, 2));
    text("Terms, signs of 1 and -1", "x3-x2+x-1", row(-1, 1, -1, 1));
    text("Terms, signs of the least and the greatest",
        "-2147483648x+2147483647", row(GREATEST, LEAST));
  }

  /** "but for the first part, which has no +". */
  private static void textsFirstPart() {
    text("Terms, the first part without +", "3x2+3x", row(0, 3, 3));
    text("Terms, the first part of one character", "x+1", row(1, 1));
    text("Terms, the first part with -", "-3x2-3x", row(0, -3, -3));
    text("Terms, the first part is the last one", "3", row(3));
  }

  /** "the digits ... without its sign, left out if they are 1 and the power is 1 or more". */
  private static void textsDigits() {
    text("Terms, the amount 1 of the power 0", "1", row(1));
    text("Terms, the amount -1 of the power 0", "-1", row(-1));
    text("Terms, the amount 1 of the power 1", "x", part(1, 1));
    text("Terms, the amount -1 of the power 1", "-x", part(-1, 1));
    text("Terms, the amounts 1 and -1 of the power 2", "-x2+x", row(0, 1, -1));
    text("Terms, the amounts 1 and -1 of the power 8", "-x8+1", row(1, 0, 0, 0, 0, 0, 0, 0, -1));
    text("Terms, the amounts 2 and -2", "-2x8+2x2", row(0, 0, 2, 0, 0, 0, 0, 0, -2));
    text("Terms, digits that begin with 1", "-11x2+10x+12", row(12, 10, -11));
    int ten = 1;
    for (int digits = 1; digits < 10; digits++) {
      ten *= 10;
      text("Terms, " + digits + " digits", (ten - 1) + "x2-" + ten, row(-ten, 0, ten - 1));
    }
  }

  /** "then, if the power is 1 or more, x, and, if it is 2 or more, its digit". */
  private static void textsPowers() {
    text("Terms, the power 0", "5", row(5));
    text("Terms, the power 1", "5x", part(5, 1));
    for (int power = 2; power <= 8; power++) {
      text("Terms, the power " + power, "5x" + power, part(5, power));
    }
  }

  /** "The text of a recipe without parts is 0." */
  private static void textWithoutParts() {
    text("Terms, the text without parts", "0", row());
    PolyKitchen kitchen = kitchen(part(LEAST, 8));
    kitchen.scale(0, 2);
    due("Terms, the text of an amount that wrapped to 0", textOf(kitchen, 0), "0");
  }

  private static void text(String what, String want, int[] row) {
    PolyKitchen kitchen = kitchen(row);
    due(what + ", length", kitchen.textLength(0), want.length());
    due(what, textOf(kitchen, 0), want);
  }
}
