import java.util.Arrays;
import java.util.Random;

/** Runs of many calls, whose answers and exceptions must be those of the model. */
public final class ModelTest {
  private static final int RUNS = 560;
  // With the digest and the amounts behind them they are 512, the most that are promised.
  private static final int CALLS = 366;
  private static final int LOW_POWERS = 4;
  private static final int MOST_WRONG = 5;
  private static final String SET = "set rpa";
  private static final int[] EDGES = {
    -1000, -999, -21, -20, -1, 0, 1, 8, 9, 20, 21, 50, 51, 999, 1000, 65536, 1 << 30,
    Integer.MIN_VALUE, Integer.MAX_VALUE
  };
  private static final int[] FACTORS = {
    -1, 2, 3, -7, 1 << 16, 1 << 28, 1 << 30, 1 << 31, 1000003, 0
  };

  private final Checks checks = new Checks();
  private final Random random;
  private PolyKitchen kitchen = new PolyKitchen();
  private ModelKitchen model = new ModelKitchen();

  private ModelTest(long seed) {
    random = new Random(seed);
  }

  public static void main(String[] args) {
    ModelTest test = new ModelTest(20261119);
    for (int run = 0; run < RUNS && test.checks.wrong() < MOST_WRONG; run++) {
      test.run(run);
    }
    test.checks.end("ModelTest");
  }

  private void run(int run) {
    kitchen = new PolyKitchen();
    model = new ModelKitchen();
    for (int number = 0; number < CALLS && checks.wrong() < MOST_WRONG; number++) {
      String call = call();
      int[] arguments = arguments(call);
      String name = Calls.name(call);
      String what = "run " + run + ", call " + number + ", " + name + Arrays.toString(arguments);
      String want = Calls.outcome(model, name, arguments);
      checks.due(what, Calls.outcome(kitchen, name, arguments), want);
    }
    checks.due("run " + run + ", digest", kitchen.digest(), model.digest());
    checks.due("run " + run + ", amounts", Calls.state(kitchen), Calls.state(model));
  }

  /**
   * Amounts are set oftener than their share, so that there is something to reckon with; the
   * digest, the last of the face, is dear for the model and asked at the end.
   */
  private String call() {
    int number = random.nextInt(Calls.FACE.length);
    return number < Calls.FACE.length - 1 ? Calls.FACE[number] : SET;
  }

  private int[] arguments(String call) {
    String letters = Calls.letters(call);
    boolean lowPower = call.equals(SET) && random.nextBoolean();
    int[] arguments = new int[letters.length()];
    for (int place = 0; place < arguments.length; place++) {
      char letter = letters.charAt(place);
      boolean low = lowPower && letter == 'p';
      arguments[place] = low ? random.nextInt(LOW_POWERS) : argument(letter);
    }
    return arguments;
  }

  private int argument(char letter) {
    if (letter != 'r' && random.nextInt(15) == 0) {
      return edge();
    }
    return switch (letter) {
      case 'r' -> recipe();
      case 'p' -> random.nextInt(9);
      case 'a' -> random.nextInt(13) - 6;
      case 'f' -> FACTORS[random.nextInt(FACTORS.length)];
      case 's', 'g' -> random.nextInt(41) - 20;
      case 'u' -> random.nextInt(50) + 1;
      default -> random.nextInt(30);
    };
  }

  private int recipe() {
    int chance = random.nextInt(40);
    return chance == 0 ? edge() : chance == 1 ? model.recipes()
        : random.nextInt(Math.max(1, model.recipes()));
  }

  private int edge() {
    return EDGES[random.nextInt(EDGES.length)];
  }
}
