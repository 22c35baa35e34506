/**
 * For each promise of the document its ordinary answers, its edges and its wrong inputs; the numbers
 * of recipes that there are not are in RefusalsTest.
 */
public final class PromisesTest extends Cases {
  private PromisesTest() {}

  public static void main(String[] args) {
    newObject();
    addRecipe();
    set();
    drop();
    scale();
    shift();
    sum();
    difference();
    product();
    chain();
    derive();
    divide();
    recipes();
    amountOf();
    degreeOf();
    isPlain();
    content();
    signChanges();
    hunger();
    idleGuests();
    firstIdle();
    agreeAt();
    cheapest();
    hungerUpTo();
    textLengthAndTextAt();
    isPartOf();
    plainParts();
    bestShift();
    meanDegree();
    digest();
    end("PromisesTest");
  }

  // ---- promise 1

  private static void newObject() {
    PolyKitchen kitchen = new PolyKitchen();
    due("1: recipes of a new kitchen", kitchen.recipes(), 0);
    new PolyKitchen().addRecipe();
    due("1: a kitchen of its own", kitchen.recipes(), 0);
  }

  // ---- promises 2 to 6

  private static void addRecipe() {
    PolyKitchen kitchen = new PolyKitchen();
    for (int number = 0; number < 16; number++) {
      due("2: addRecipe", kitchen.addRecipe(), number);
      amounts("2: a new recipe", kitchen, number);
    }
    refused("2: a 17th", STATE, kitchen, () -> kitchen.addRecipe());
    kitchen.set(15, 8, 5);
    kitchen.drop(15);
    due("2: addRecipe after a drop", kitchen.addRecipe(), 15);
    amounts("2: nothing of the dropped one is left", kitchen, 15);
  }

  private static void set() {
    PolyKitchen kitchen = kitchen(row());
    due("3: set at first", kitchen.set(0, 0, 999), 0);
    due("3: set again", kitchen.set(0, 0, -999), 999);
    due("3: set the power 8", kitchen.set(0, 8, 7), 0);
    amounts("3: what was set", kitchen, 0, -999, 0, 0, 0, 0, 0, 0, 0, 7);
    refused("3: power -1", INDEX, kitchen, () -> kitchen.set(0, -1, 0));
    refused("3: power 9", INDEX, kitchen, () -> kitchen.set(0, 9, 0));
    refused("3: power 9 ahead of the amount", INDEX, kitchen, () -> kitchen.set(0, 9, 1000));
    refused("3: no recipe ahead of the amount", INDEX, kitchen, () -> kitchen.set(1, 0, 1000));
    refused("3: amount 1000", ARGUMENT, kitchen, () -> kitchen.set(0, 0, 1000));
    refused("3: amount -1000", ARGUMENT, kitchen, () -> kitchen.set(0, 0, -1000));
    refused("3: least amount", ARGUMENT, kitchen, () -> kitchen.set(0, 0, Integer.MIN_VALUE));
    kitchen.scale(0, 1000);
    due("3: a great amount before", kitchen.set(0, 0, 1), -999000);
  }

  private static void drop() {
    PolyKitchen kitchen = kitchen(row(1, 2), row(3, 4, 5), row(6), row(), row(0, 0, 0, 8));
    due("4: degree of the one in the middle", kitchen.drop(1), 2);
    due("4: one less", kitchen.recipes(), 4);
    amounts("4: the one before stays", kitchen, 0, 1, 2);
    amounts("4: the next one moves up", kitchen, 1, 6);
    amounts("4: and the next", kitchen, 2);
    amounts("4: and the last", kitchen, 3, 0, 0, 0, 8);
    kitchen.set(3, 0, 9);
    amounts("4: no two share amounts", kitchen, 2);
    due("4: degree of the last", kitchen.drop(3), 3);
    due("4: degree without parts", kitchen.drop(2), -1);
    due("4: degree of the first", kitchen.drop(0), 1);
    amounts("4: the one left", kitchen, 0, 6);
    due("4: degree of the only one", kitchen.drop(0), 0);
    refused("4: none left", INDEX, kitchen, () -> kitchen.drop(0));
  }

  private static void scale() {
    PolyKitchen kitchen = kitchen(row(1, -2, 3), row(1));
    due("5: degree", kitchen.scale(0, -3), 2);
    amounts("5: amounts", kitchen, 0, -3, 6, -9);
    amounts("5: others stay", kitchen, 1, 1);
    due("5: by 65536", kitchen.scale(0, 65536), 2);
    due("5: by 65536 again", kitchen.scale(0, 65536), -1);
    amounts("5: all wrapped to 0", kitchen, 0);
    kitchen.set(0, 2, 2);
    kitchen.set(0, 1, 1);
    due("5: the degree gets less", kitchen.scale(0, Integer.MIN_VALUE), 1);
    amounts("5: wrapped", kitchen, 0, 0, Integer.MIN_VALUE);
    due("5: by 0", kitchen.scale(0, 0), -1);
  }

  private static void shift() {
    PolyKitchen kitchen = kitchen(row(6, -7, 0, 1), row(0, 0, 0, 0, 0, 0, 0, 0, 1), row());
    due("6: x3-7x+6 by 2", kitchen.shift(0, 2), 0);
    amounts("6: x3+6x2+5x", kitchen, 0, 0, 5, 6, 1);
    due("6: by 0", kitchen.shift(0, 0), 0);
    due("6: back", kitchen.shift(0, -2), 6);
    amounts("6: as it was", kitchen, 0, 6, -7, 0, 1);
    due("6: x8 by 1", kitchen.shift(1, 1), 1);
    amounts("6: (x+1)8", kitchen, 1, 1, 8, 28, 56, 70, 56, 28, 8, 1);
    kitchen.shift(1, -1);
    due("6: x8 by 20 wraps", kitchen.shift(1, 20), (int) 25600000000L);
    due("6: and back by -20", kitchen.shift(1, -20), 0);
    amounts("6: x8 again", kitchen, 1, 0, 0, 0, 0, 0, 0, 0, 0, 1);
    due("6: without parts", kitchen.shift(2, 20), 0);
    refused("6: by 21", ARGUMENT, kitchen, () -> kitchen.shift(0, 21));
    refused("6: by -21", ARGUMENT, kitchen, () -> kitchen.shift(0, -21));
    refused("6: no recipe ahead of guests", INDEX, kitchen, () -> kitchen.shift(3, 21));
  }

  // ---- promises 7 to 12

  private static void sum() {
    PolyKitchen kitchen = kitchen(row(1, 2, 3), row(10, 0, -3, 0, 0, 0, 0, 0, 4));
    due("7: number", kitchen.sum(0, 1), 2);
    amounts("7: sum", kitchen, 2, 11, 2, 0, 0, 0, 0, 0, 0, 4);
    amounts("7: the first one stays", kitchen, 0, 1, 2, 3);
    due("7: with itself", kitchen.sum(0, 0), 3);
    amounts("7: twice", kitchen, 3, 2, 4, 6);
    kitchen.scale(0, 1 << 30);
    kitchen.sum(0, 0);
    amounts("7: wraps", kitchen, 4, Integer.MIN_VALUE, 0, Integer.MIN_VALUE);
    fullIsRefused("7: sum", (full, one, other) -> full.sum(one, other));
  }

  private static void difference() {
    PolyKitchen kitchen = kitchen(row(1, 2, 3), row(10, 0, 3, 0, 0, 0, 0, 0, 4));
    due("8: number", kitchen.difference(0, 1), 2);
    amounts("8: difference", kitchen, 2, -9, 2, 0, 0, 0, 0, 0, 0, -4);
    due("8: of itself", kitchen.difference(1, 1), 3);
    amounts("8: nothing", kitchen, 3);
    kitchen.scale(0, 1 << 31);
    kitchen.difference(3, 0);
    amounts("8: wraps", kitchen, 4, Integer.MIN_VALUE, 0, Integer.MIN_VALUE);
    fullIsRefused("8: difference", (full, one, other) -> full.difference(one, other));
  }

  private static void product() {
    PolyKitchen kitchen = kitchen(row(-2, 1), row(-3, 2, 1), row(0, 0, 0, 0, 0, 0, 1), row());
    due("9: number", kitchen.product(0, 1), 4);
    amounts("9: (x-2)(x2+2x-3)", kitchen, 4, 6, -7, 0, 1);
    due("9: degrees 6 and 2", kitchen.product(2, 1), 5);
    amounts("9: x8+2x7-3x6", kitchen, 5, 0, 0, 0, 0, 0, 0, -3, 2, 1);
    due("9: degrees 8 and -1", kitchen.product(5, 3), 6);
    amounts("9: nothing", kitchen, 6);
    refused("9: degrees 6 and 3", ARGUMENT, kitchen, () -> kitchen.product(2, 4));
    refused("9: degrees 8 and 1", ARGUMENT, kitchen, () -> kitchen.product(5, 0));
    kitchen.scale(0, 1 << 30);
    kitchen.product(0, 0);
    amounts("9: wraps", kitchen, 7);
    fullIsRefused("9: product", (full, one, other) -> full.product(one, other));
    PolyKitchen full = full(row(0, 0, 0, 0, 0, 1), row(1));
    refused("9: degrees ahead of 16", ARGUMENT, full, () -> full.product(0, 0));
    refused("9: no recipe ahead of degrees", INDEX, full, () -> full.product(0, 16));
  }

  private static void chain() {
    PolyKitchen kitchen = kitchen(row(1, -3, 2), row(0, 0, 1, 0, 1), row(), row(7), row(0, 1));
    due("10: number", kitchen.chain(1, 0), 5);
    amounts("10: degrees 4 and 2", kitchen, 5, 2, -18, 75, -192, 325, -360, 248, -96, 16);
    due("10: the other way round", kitchen.chain(0, 1), 6);
    amounts("10: degrees 2 and 4", kitchen, 6, 1, 0, -3, 0, -1, 0, 4, 0, 2);
    kitchen.chain(1, 3);
    amounts("10: of a number", kitchen, 7, 2450);
    kitchen.chain(3, 1);
    amounts("10: a number of one", kitchen, 8, 7);
    kitchen.chain(0, 2);
    amounts("10: of nothing, whose power 0 is 1", kitchen, 9, 1);
    kitchen.chain(2, 5);
    amounts("10: nothing of one", kitchen, 10);
    kitchen.chain(2, 2);
    amounts("10: nothing of nothing", kitchen, 11);
    kitchen.chain(5, 4);
    amounts("10: degrees 8 and 1", kitchen, 12, 2, -18, 75, -192, 325, -360, 248, -96, 16);
    refused("10: degrees 8 and 2", ARGUMENT, kitchen, () -> kitchen.chain(5, 0));
    chainAtTheEdges();
    fullIsRefused("10: chain", (full, one, other) -> full.chain(one, other));
    PolyKitchen full = full(row(0, 0, 0, 1), row(1));
    refused("10: degrees ahead of 16", ARGUMENT, full, () -> full.chain(0, 0));
    refused("10: no recipe ahead of degrees", INDEX, full, () -> full.chain(0, 16));
  }

  private static void chainAtTheEdges() {
    PolyKitchen kitchen = kitchen(row(5, 0, 0, 0, 0, 0, 0, 0, 1), row(3), row(3, 2), row(0, 0, 0, 1));
    kitchen.chain(0, 1);
    amounts("10: degrees 8 and 0", kitchen, 4, 6566);
    kitchen.chain(2, 0);
    amounts("10: degrees 1 and 8", kitchen, 5, 13, 0, 0, 0, 0, 0, 0, 0, 2);
    refused("10: degrees 3 and 3 are 9", ARGUMENT, kitchen, () -> kitchen.chain(3, 3));
    kitchen.scale(1, 1 << 28);
    kitchen.chain(0, 1);
    amounts("10: wraps", kitchen, 6, 5);
  }

  private static void derive() {
    PolyKitchen kitchen = kitchen(row(6, -7, 0, 1), row(1, 1, 1, 1, 1, 1, 1, 1, 1), row(9), row());
    due("11: number", kitchen.derive(0), 4);
    amounts("11: 3x2-7", kitchen, 4, -7, 0, 3);
    kitchen.derive(1);
    amounts("11: all powers", kitchen, 5, 1, 2, 3, 4, 5, 6, 7, 8, 0);
    due("11: of a number", kitchen.derive(2), 6);
    amounts("11: nothing", kitchen, 6);
    due("11: of nothing", kitchen.derive(3), 7);
    amounts("11: nothing again", kitchen, 7);
    kitchen.scale(1, 1 << 30);
    kitchen.derive(1);
    int half = Integer.MIN_VALUE;
    int quarter = 1 << 30;
    amounts("11: wraps", kitchen, 8, quarter, half, -quarter, 0, quarter, half, -quarter, 0, 0);
    fullIsRefused("11: derive", (full, one, other) -> full.derive(one));
  }

  private static void divide() {
    int[] eighth = row(0, 0, 0, 0, 0, 0, 0, 0, 1);
    PolyKitchen kitchen = kitchen(row(3, -2, 5, 0, 7, 1, 0, 0, 4), row(2, -1, 0, 1), row(1), eighth);
    due("12: number", kitchen.divide(0, 1), 4);
    due("12: two new ones", kitchen.recipes(), 6);
    amounts("12: quotient", kitchen, 4, -15, 11, -7, 4, 0, 4);
    amounts("12: leftover", kitchen, 5, 33, -39, 30);
    amounts("12: the recipe stays", kitchen, 0, 3, -2, 5, 0, 7, 1, 0, 0, 4);
    amounts("12: the plain one stays", kitchen, 1, 2, -1, 0, 1);
    due("12: by 1", kitchen.divide(1, 2), 6);
    amounts("12: itself", kitchen, 6, 2, -1, 0, 1);
    amounts("12: no leftover", kitchen, 7);
    due("12: by a greater degree", kitchen.divide(1, 3), 8);
    amounts("12: nothing", kitchen, 8);
    amounts("12: all left over", kitchen, 9, 2, -1, 0, 1);
    due("12: by itself", kitchen.divide(3, 3), 10);
    amounts("12: once", kitchen, 10, 1);
    amounts("12: nothing left over", kitchen, 11);
    due("12: with 12 before", kitchen.divide(11, 3), 12);
    amounts("12: nothing into parts", kitchen, 12);
    divideWraps();
    divideRefuses();
  }

  private static void divideWraps() {
    PolyKitchen kitchen = kitchen(row(0, 0, 0, 0, 0, 0, 0, 0, 1), row(999, 1));
    kitchen.divide(0, 1);
    amounts("12: wraps", kitchen, 2, 511403497, -1724517807, 788492025, -426416671, -997002999,
        998001, -999, 1);
    amounts("12: the leftover wraps", kitchen, 3, 209014721);
  }

  private static void divideRefuses() {
    PolyKitchen kitchen = kitchen(row(0, 1), row(1, 2), row(), row(1, 1, -1));
    refused("12: by 2x+1", ARGUMENT, kitchen, () -> kitchen.divide(0, 1));
    refused("12: by nothing", ARGUMENT, kitchen, () -> kitchen.divide(0, 2));
    refused("12: by -x2+x+1", ARGUMENT, kitchen, () -> kitchen.divide(0, 3));
    while (kitchen.recipes() < 15) {
      kitchen.addRecipe();
    }
    refused("12: 15 recipes", STATE, kitchen, () -> kitchen.divide(1, 0));
    refused("12: not plain ahead of 15", ARGUMENT, kitchen, () -> kitchen.divide(0, 1));
    refused("12: no recipe ahead of not plain", INDEX, kitchen, () -> kitchen.divide(15, 1));
    kitchen.addRecipe();
    refused("12: 16 recipes", STATE, kitchen, () -> kitchen.divide(1, 0));
    kitchen.drop(15);
    kitchen.drop(14);
    due("12: 14 recipes", kitchen.divide(1, 0), 14);
    amounts("12: quotient 2", kitchen, 14, 2);
    amounts("12: leftover 1", kitchen, 15, 1);
  }

  // ---- promises 13 to 18

  private static void recipes() {
    PolyKitchen kitchen = kitchen(row(1), row(2));
    due("13: two", kitchen.recipes(), 2);
    kitchen.sum(0, 1);
    due("13: three", kitchen.recipes(), 3);
    kitchen.drop(0);
    due("13: two again", kitchen.recipes(), 2);
    due("13: 16", full(row()).recipes(), 16);
  }

  private static void amountOf() {
    PolyKitchen kitchen = kitchen(row(1, 2, 3, 4, 5, 6, 7, 8, 9));
    for (int power = 0; power < POWERS; power++) {
      due("14: power " + power, kitchen.amountOf(0, power), power + 1);
    }
    refused("14: power -1", INDEX, kitchen, () -> kitchen.amountOf(0, -1));
    refused("14: power 9", INDEX, kitchen, () -> kitchen.amountOf(0, 9));
  }

  private static void degreeOf() {
    PolyKitchen kitchen = kitchen(row(), row(-4), row(0, 0, 3), row(1, 0, 0, 0, 0, 0, 0, 0, -1));
    due("15: without parts", kitchen.degreeOf(0), -1);
    due("15: a number", kitchen.degreeOf(1), 0);
    due("15: 3x2", kitchen.degreeOf(2), 2);
    due("15: -x8+1", kitchen.degreeOf(3), 8);
  }

  private static void isPlain() {
    PolyKitchen kitchen = kitchen(row(), row(1), row(5, 0, 1), row(1, 1, 2), row(1, -1));
    due("16: without parts", kitchen.isPlain(0), false);
    due("16: 1", kitchen.isPlain(1), true);
    due("16: x2+5", kitchen.isPlain(2), true);
    due("16: 2x2+x+1", kitchen.isPlain(3), false);
    due("16: -x+1", kitchen.isPlain(4), false);
  }

  private static void content() {
    PolyKitchen kitchen = kitchen(row(), row(-12, 0, 18, 30), row(0, -7), row(3, 5), row(1, 0, 2));
    due("17: without parts", kitchen.content(0), 0L);
    due("17: 30x3+18x2-12", kitchen.content(1), 6L);
    due("17: -7x", kitchen.content(2), 7L);
    due("17: 5x+3", kitchen.content(3), 1L);
    kitchen.scale(4, Integer.MIN_VALUE);
    due("17: the least amount", kitchen.content(4), 2147483648L);
    kitchen.set(4, 3, 640);
    due("17: the least amount and 640", kitchen.content(4), 128L);
  }

  private static void signChanges() {
    PolyKitchen kitchen = kitchen(row(), row(6, -7, 0, 1), row(-1, 0, -1), row(1, -1, 1, -1, 0, 1));
    due("18: without parts", kitchen.signChanges(0), 0);
    due("18: x3-7x+6", kitchen.signChanges(1), 2);
    due("18: -x2-1", kitchen.signChanges(2), 0);
    due("18: four", kitchen.signChanges(3), 4);
    kitchen.scale(1, -1);
    due("18: -x3+7x-6", kitchen.signChanges(1), 2);
  }

  // ---- promises 19 to 24

  private static void hunger() {
    PolyKitchen kitchen = kitchen(row(6, -7, 0, 1), row(), row(5, 0, 0, 0, 0, 0, 0, 0, 1));
    due("19: for 5", kitchen.hunger(0, 5), 96);
    due("19: for -4", kitchen.hunger(0, -4), -30);
    due("19: for 0", kitchen.hunger(0, 0), 6);
    due("19: without parts", kitchen.hunger(1, Integer.MAX_VALUE), 0);
    due("19: wraps", kitchen.hunger(2, 20), (int) (25600000000L + 5));
    due("19: for 65536", kitchen.hunger(2, 65536), 5);
    due("19: for the least", kitchen.hunger(0, Integer.MIN_VALUE), Integer.MIN_VALUE + 6);
  }

  private static void idleGuests() {
    PolyKitchen kitchen = kitchen(row(6, -7, 0, 1), row(), row(1), row(-400, 0, 1), row(-21, 1));
    due("20: x3-7x+6", kitchen.idleGuests(0), 3);
    due("20: without parts", kitchen.idleGuests(1), 41);
    due("20: 1", kitchen.idleGuests(2), 0);
    due("20: -20 and 20", kitchen.idleGuests(3), 2);
    due("20: 21 is too far", kitchen.idleGuests(4), 0);
    kitchen.scale(4, 1 << 31);
    due("20: odd guests after wrapping", kitchen.idleGuests(4), 20);
  }

  private static void firstIdle() {
    PolyKitchen kitchen = kitchen(row(6, -7, 0, 1), row(), row(1), row(-400, 0, 1), row(-20, 1));
    due("21: x3-7x+6", kitchen.firstIdle(0), -3);
    due("21: without parts", kitchen.firstIdle(1), -20);
    due("21: none", kitchen.firstIdle(2), 99);
    due("21: -20", kitchen.firstIdle(3), -20);
    due("21: 20", kitchen.firstIdle(4), 20);
    kitchen.set(4, 0, -21);
    due("21: 21 is too far", kitchen.firstIdle(4), 99);
    kitchen.set(4, 0, 21);
    due("21: -21 is too far", kitchen.firstIdle(4), 99);
  }

  private static void agreeAt() {
    PolyKitchen kitchen = kitchen(row(0, 0, 1), row(16), row(0, 1), row(20), row(21), row(-21));
    due("22: x2 and 16", kitchen.agreeAt(0, 1), -4);
    due("22: 16 and x2", kitchen.agreeAt(1, 0), -4);
    due("22: x2 and x", kitchen.agreeAt(0, 2), 0);
    due("22: x and 20", kitchen.agreeAt(2, 3), 20);
    due("22: x and 21", kitchen.agreeAt(2, 4), 99);
    due("22: x and -21", kitchen.agreeAt(2, 5), 99);
    due("22: with itself", kitchen.agreeAt(2, 2), -20);
    kitchen.set(4, 0, 1);
    kitchen.scale(4, 1 << 31);
    kitchen.scale(2, 1 << 31);
    due("22: wraps", kitchen.agreeAt(2, 4), -19);
  }

  private static void cheapest() {
    PolyKitchen kitchen = kitchen(row(49, -14, 1), row(30, -11, 1), row(3), row(0, -1), row(0, 1));
    due("23: (x-7)2", kitchen.cheapest(0), 7);
    due("23: 5 and 6 are as cheap", kitchen.cheapest(1), 5);
    due("23: all the same", kitchen.cheapest(2), 1);
    due("23: -x, 21 is not looked at", kitchen.cheapest(3), 20);
    due("23: x, 0 is not looked at", kitchen.cheapest(4), 1);
    kitchen.scale(4, 1 << 28);
    due("23: wraps to the least", kitchen.cheapest(4), 8);
  }

  private static void hungerUpTo() {
    PolyKitchen kitchen = kitchen(row(0, 0, 1), row(0, 0, 0, 0, 0, 0, 0, 0, 1), row(999));
    due("24: x2 up to 1", kitchen.hungerUpTo(0, 1), 1L);
    due("24: x2 up to 10", kitchen.hungerUpTo(0, 10), 385L);
    due("24: x2 up to 50", kitchen.hungerUpTo(0, 50), 42925L);
    kitchen.scale(2, 2000000);
    due("24: more than 32 bits", kitchen.hungerUpTo(2, 50), 99900000000L);
    long wrapped = 0;
    for (int guests = 1; guests <= 50; guests++) {
      wrapped += (int) (long) Math.pow(guests, 8);
    }
    due("24: each hunger wraps", kitchen.hungerUpTo(1, 50), wrapped);
    refused("24: up to 0", ARGUMENT, kitchen, () -> kitchen.hungerUpTo(0, 0));
    refused("24: up to 51", ARGUMENT, kitchen, () -> kitchen.hungerUpTo(0, 51));
    refused("24: up to -1", ARGUMENT, kitchen, () -> kitchen.hungerUpTo(0, -1));
    refused("24: no recipe ahead of guests", INDEX, kitchen, () -> kitchen.hungerUpTo(3, 0));
  }

  // ---- promises 25 and 26

  private static void textLengthAndTextAt() {
    text("0", row());
    text("1", row(1));
    text("-1", row(-1));
    text("-42", row(-42));
    text("x", row(0, 1));
    text("-x", row(0, -1));
    text("10x", row(0, 10));
    text("x+1", row(1, 1));
    text("x3-7x+6", row(6, -7, 0, 1));
    text("-x2+x-12", row(-12, 1, -1));
    text("x8+1", row(1, 0, 0, 0, 0, 0, 0, 0, 1));
    text("9x8-8x7+7x6-6x5+5x4-4x3+3x2-2x+100", row(100, -2, 3, -4, 5, -6, 7, -8, 9));
    longTexts();
    PolyKitchen kitchen = kitchen(row(6, -7, 0, 1), row());
    refused("26: place -1", INDEX, kitchen, () -> kitchen.textAt(0, -1));
    refused("26: place 7 of 7", INDEX, kitchen, () -> kitchen.textAt(0, 7));
    refused("26: place 1 of 0", INDEX, kitchen, () -> kitchen.textAt(1, 1));
    refused("26: a great place", INDEX, kitchen, () -> kitchen.textAt(0, Integer.MAX_VALUE));
  }

  private static void longTexts() {
    PolyKitchen kitchen = kitchen(row(1, 1, 1, 1, 1, 1, 1, 1, 1));
    kitchen.scale(0, Integer.MIN_VALUE);
    StringBuilder longest = new StringBuilder();
    for (int power = 8; power >= 0; power--) {
      longest.append("-2147483648").append(power >= 1 ? "x" : "").append(power >= 2 ? power : "");
    }
    due("26: the longest text", textOf(kitchen, 0), longest.toString());
    PolyKitchen tens = kitchen(row(1, 1));
    String digits = "1";
    for (int zeros = 1; zeros <= 9; zeros++) {
      tens.scale(0, 10);
      digits = digits + "0";
      due("26: a power of ten", textOf(tens, 0), digits + "x+" + digits);
    }
  }

  private static void text(String want, int[] row) {
    PolyKitchen kitchen = kitchen(row);
    due("25: length of " + want, kitchen.textLength(0), want.length());
    due("26: text", textOf(kitchen, 0), want);
    refused("26: behind " + want, INDEX, kitchen, () -> kitchen.textAt(0, want.length()));
  }

  // ---- promises 27 to 31

  private static void isPartOf() {
    PolyKitchen kitchen = kitchen(row(6, -7, 0, 1), row(-2, 1), row(2, 1), row(-4, 2), row(), row(1));
    due("27: x-2", kitchen.isPartOf(0, 1), true);
    due("27: x+2", kitchen.isPartOf(0, 2), false);
    due("27: 2x-4 is not plain", kitchen.isPartOf(0, 3), false);
    due("27: nothing is not plain", kitchen.isPartOf(0, 4), false);
    due("27: 1", kitchen.isPartOf(0, 5), true);
    due("27: itself", kitchen.isPartOf(0, 0), true);
    due("27: a greater degree", kitchen.isPartOf(1, 0), false);
    due("27: of nothing", kitchen.isPartOf(4, 0), true);
    due("27: the plain one's multiple", kitchen.isPartOf(3, 1), true);
    due("27: nothing is changed", kitchen.recipes(), 6);
    amounts("27: the recipe stays", kitchen, 0, 6, -7, 0, 1);
    due("27: with 16 recipes", full(row(0, 0, 1), row(0, 1)).isPartOf(0, 1), true);
    kitchen.scale(5, 1 << 31);
    kitchen.set(5, 1, 2);
    kitchen.scale(5, 1 << 30);
    due("27: wraps", kitchen.isPartOf(5, 2), true);
  }

  private static void plainParts() {
    plainParts("x3-7x+6", 3, row(6, -7, 0, 1));
    plainParts("without parts", 0, row());
    plainParts("a number", 0, row(12));
    plainParts("x7", 7, row(0, 0, 0, 0, 0, 0, 0, 1));
    plainParts("x8, which is 0 for -16 guests too", 2, row(0, 0, 0, 0, 0, 0, 0, 0, 1));
    plainParts("(x-1)3", 3, row(-1, 3, -3, 1));
    plainParts("2(x-20)(x+20)", 2, row(-800, 0, 2));
    plainParts("x2-400", 2, row(-400, 0, 1));
    plainParts("x2-441, too far", 0, row(-441, 0, 1));
    plainParts("x2+1", 0, row(1, 0, 1));
    plainParts("(x2+1)(x-2)", 1, row(-2, 1, -2, 1));
    PolyKitchen far = kitchen(row(0, 0, 0, 0, 0, 0, 0, 0, 1));
    far.shift(0, 20);
    due("28: (x+20)8, all by the smallest number", far.plainParts(0), 8);
    PolyKitchen kitchen = kitchen(row(3, -1, -3, 1));
    due("28: (x-3)(x-1)(x+1)", kitchen.plainParts(0), 3);
    kitchen.scale(0, 1 << 28);
    due("28: after wrapping the smallest number takes more", kitchen.plainParts(0), 1);
    amounts("28: nothing is changed", kitchen, 0, 3 << 28, -1 << 28, -3 << 28, 1 << 28);
  }

  private static void plainParts(String what, int want, int[] row) {
    due("28: " + what, kitchen(row).plainParts(0), want);
  }

  private static void bestShift() {
    PolyKitchen kitchen = kitchen(row(9, -6, 1), row(5, 1), row(-20, 1), row(20, 1), row(-21, 1), row());
    due("29: (x-3)2", kitchen.bestShift(0), 3);
    due("29: x+5", kitchen.bestShift(1), -5);
    due("29: x-20", kitchen.bestShift(2), 20);
    due("29: x+20", kitchen.bestShift(3), -20);
    due("29: x-21, too far", kitchen.bestShift(4), 0);
    due("29: without parts", kitchen.bestShift(5), 0);
    kitchen.set(5, 2, 1);
    kitchen.set(5, 0, -1);
    due("29: x2-1 has no fewer", kitchen.bestShift(5), 0);
    kitchen.scale(5, 1 << 31);
    due("29: 1 and -1 do as well, and farther ones", kitchen.bestShift(5), 1);
    kitchen.set(5, 2, 1);
    kitchen.set(5, 1, 5);
    kitchen.set(5, 0, 6);
    due("29: (x+2)(x+3)", kitchen.bestShift(5), -2);
    amounts("29: nothing is changed", kitchen, 0, 9, -6, 1);
  }

  private static void meanDegree() {
    due("30: none", new PolyKitchen().meanDegree(), 0.0);
    due("30: one", kitchen(row(0, 0, 2)).meanDegree(), 2.0);
    due("30: 3, 0 and -1", kitchen(row(6, -7, 0, 1), row(1), row()).meanDegree(), 2.0 / 3);
    due("30: without parts", kitchen(row(), row()).meanDegree(), -1.0);
    due("30: -1 and 0", kitchen(row(), row(4)).meanDegree(), -0.5);
    due("30: -1 and 1", kitchen(row(), row(0, 4)).meanDegree(), 0.0);
  }

  private static void digest() {
    due("31: none", new PolyKitchen().digest(), 2179L * 31);
    PolyKitchen kitchen = kitchen(row(25, -10, 1), row());
    long[] numbers = {
      2, 2, 1, 1, 2, 4, 1, 5, 5, 9, 2, 5, 25, -10, 1, 0, 0, 0, 0, 0, 0,
      -1, 0, 0, 0, 0, 41, -20, 1, 1, 0, 0, 0, 0, 0, 0, 0, 0, 0, 0, 0
    };
    long want = 2179;
    for (long number : numbers) {
      want = want * 31 + number;
    }
    due("31: x2-10x+25 and nothing", kitchen.digest(), want);
    due("31: the same again", kitchen.digest(), want);
    kitchen.set(1, 8, 1);
    due("31: another one", kitchen.digest() != want, true);
  }

  // ---- helpers

  /** A call that makes one recipe is refused with 16, and only behind the recipes' own test. */
  private static void fullIsRefused(String what, TwoRecipes call) {
    PolyKitchen kitchen = full(row(1, 1), row(2));
    refused(what + " with 16", STATE, kitchen, () -> call.of(kitchen, 0, 1));
    refused(what + ", no recipe ahead of 16", INDEX, kitchen, () -> call.of(kitchen, 16, 0));
    kitchen.drop(15);
    due(what + " with 15", call.of(kitchen, 0, 1), 15);
  }
}
