import java.util.Random;

/** Runs of 512 calls each, whose answers and exceptions must be those of the model. */
public final class ModelTest {
  private static final int RUNS = 400;
  private static final int CALLS = 512;
  private static final int KINDS = 30;
  private static final int MOST_WRONG = 5;
  private static final int[] EDGES = {
    -1000, -999, -21, -20, -1, 0, 1, 8, 9, 20, 21, 50, 51, 999, 1000, 65536, 1 << 30,
    Integer.MIN_VALUE, Integer.MAX_VALUE
  };
  private static final int[] FACTORS = {
    -1, 2, 3, -7, 1 << 16, 1 << 28, 1 << 30, 1 << 31, 1000003, 0
  };

  private final Checks checks = new Checks();
  private final Random random;
  private PolyKitchen kitchen = new PolyKitchen();
  private ModelKitchen model = new ModelKitchen();

  private ModelTest(long seed) {
    random = new Random(seed);
  }

  public static void main(String[] args) {
    ModelTest test = new ModelTest(20261119);
    for (int run = 0; run < RUNS && test.checks.wrong() < MOST_WRONG; run++) {
      test.run(run);
    }
    test.checks.end("ModelTest");
  }

  private void run(int run) {
    kitchen = new PolyKitchen();
    model = new ModelKitchen();
    for (int call = 0; call < CALLS && checks.wrong() < MOST_WRONG; call++) {
      int kind = random.nextInt(KINDS);
      int one = recipe();
      int other = recipe();
      int number = number(kind);
      int amount = random.nextInt(20) == 0 ? edge() : random.nextInt(13) - 6;
      String what = "run " + run + ", call " + call + ", kind " + kind
          + " (" + one + ", " + other + ", " + number + ", " + amount + ")";
      String want = Checks.outcome(() -> ofModel(kind, one, other, number, amount));
      String got = Checks.outcome(() -> ofKitchen(kind, one, other, number, amount));
      checks.due(what, got, want);
      checks.due(what + " leaves the amounts", amounts(), modelAmounts());
    }
    checks.due("run " + run + ", digest", kitchen.digest(), model.digest());
  }

  private int recipe() {
    int chance = random.nextInt(40);
    return chance == 0 ? edge() : chance == 1 ? model.recipes()
        : random.nextInt(Math.max(1, model.recipes()));
  }

  private int edge() {
    return EDGES[random.nextInt(EDGES.length)];
  }

  /** A power, a factor, a number of guests or a place, as the kind of call wants it. */
  private int number(int kind) {
    if (random.nextInt(15) == 0) {
      return edge();
    }
    return switch (kind) {
      case 1, 13 -> random.nextInt(9);
      case 3 -> FACTORS[random.nextInt(FACTORS.length)];
      case 5, 18 -> random.nextInt(41) - 20;
      case 23 -> random.nextInt(50) + 1;
      default -> random.nextInt(30);
    };
  }

  /** Amounts are set oftener than their share, so that there is something to reckon with. */
  private Object ofKitchen(int kind, int one, int other, int number, int amount) {
    return switch (kind) {
      case 0 -> kitchen.addRecipe();
      case 1 -> kitchen.set(one, number, amount);
      case 2 -> kitchen.drop(one);
      case 3 -> kitchen.scale(one, number);
      case 4 -> kitchen.set(one, amount & 3, amount);
      case 5 -> kitchen.shift(one, number);
      case 6 -> kitchen.sum(one, other);
      case 7 -> kitchen.difference(one, other);
      case 8 -> kitchen.product(one, other);
      case 9 -> kitchen.chain(one, other);
      case 10 -> kitchen.derive(one);
      case 11 -> kitchen.divide(one, other);
      case 12 -> kitchen.recipes();
      case 13 -> kitchen.amountOf(one, number);
      case 14 -> kitchen.degreeOf(one);
      case 15 -> kitchen.isPlain(one);
      case 16 -> kitchen.content(one);
      case 17 -> kitchen.signChanges(one);
      case 18 -> kitchen.hunger(one, number);
      case 19 -> kitchen.idleGuests(one);
      case 20 -> kitchen.firstIdle(one);
      case 21 -> kitchen.agreeAt(one, other);
      case 22 -> kitchen.cheapest(one);
      case 23 -> kitchen.hungerUpTo(one, number);
      case 24 -> kitchen.textLength(one);
      case 25 -> kitchen.textAt(one, number);
      case 26 -> kitchen.isPartOf(one, other);
      case 27 -> kitchen.plainParts(one);
      case 28 -> kitchen.bestShift(one);
      default -> kitchen.meanDegree();
    };
  }

  private Object ofModel(int kind, int one, int other, int number, int amount) {
    return switch (kind) {
      case 0 -> model.addRecipe();
      case 1 -> model.set(one, number, amount);
      case 2 -> model.drop(one);
      case 3 -> model.scale(one, number);
      case 4 -> model.set(one, amount & 3, amount);
      case 5 -> model.shift(one, number);
      case 6 -> model.sum(one, other);
      case 7 -> model.difference(one, other);
      case 8 -> model.product(one, other);
      case 9 -> model.chain(one, other);
      case 10 -> model.derive(one);
      case 11 -> model.divide(one, other);
      case 12 -> model.recipes();
      case 13 -> model.amountOf(one, number);
      case 14 -> model.degreeOf(one);
      case 15 -> model.isPlain(one);
      case 16 -> model.content(one);
      case 17 -> model.signChanges(one);
      case 18 -> model.hunger(one, number);
      case 19 -> model.idleGuests(one);
      case 20 -> model.firstIdle(one);
      case 21 -> model.agreeAt(one, other);
      case 22 -> model.cheapest(one);
      case 23 -> model.hungerUpTo(one, number);
      case 24 -> model.textLength(one);
      case 25 -> model.textAt(one, number);
      case 26 -> model.isPartOf(one, other);
      case 27 -> model.plainParts(one);
      case 28 -> model.bestShift(one);
      default -> model.meanDegree();
    };
  }

  private String amounts() {
    StringBuilder all = new StringBuilder();
    for (int recipe = 0; recipe < kitchen.recipes(); recipe++) {
      for (int power = 0; power <= 8; power++) {
        all.append(kitchen.amountOf(recipe, power)).append(power == 8 ? "; " : " ");
      }
    }
    return all.toString();
  }

  private String modelAmounts() {
    StringBuilder all = new StringBuilder();
    for (int recipe = 0; recipe < model.recipes(); recipe++) {
      for (int power = 0; power <= 8; power++) {
        all.append(model.amountOf(recipe, power)).append(power == 8 ? "; " : " ");
      }
    }
    return all.toString();
  }
}
