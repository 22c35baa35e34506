import java.util.ArrayList;
import java.util.Arrays;
import java.util.List;

/**
 * Each call of the face with all combinations of its arguments' edges, on kitchens of different
 * sizes: the answer or exception, and all amounts behind it, must be those of the model.
 */
public final class GridTest {
  private static final int LEAST = Integer.MIN_VALUE;
  private static final int GREATEST = Integer.MAX_VALUE;
  private static final int MOST_WRONG = 20;
  private static final int LONGEST_TEXT = 114;
  private static final int LAST_ROWS = 3;

  private static final int[] COUNTS = {0, 1, 2, 14, 15, 16};
  private static final int[] POWERS = {LEAST, -1, 0, 1, 7, 8, 9, GREATEST};
  private static final int[] AMOUNTS = {LEAST, -1000, -999, -1, 0, 1, 999, 1000, GREATEST};
  private static final int[] FACTORS = {LEAST, -65536, -2, -1, 0, 1, 2, 65536, GREATEST};
  private static final int[] SHIFTS = {LEAST, -21, -20, -1, 0, 1, 20, 21, GREATEST};
  private static final int[] GUESTS = {LEAST, -65536, -21, -20, -1, 0, 1, 20, 21, 65536, GREATEST};
  private static final int[] MOST_GUESTS = {LEAST, -1, 0, 1, 2, 49, 50, 51, GREATEST};

  /** Degrees from -1 to 8, plain and not, with amounts that wrap around. */
  private static final int[][] ROWS = {
    {}, {1, 0, 0, 0, 0, 0, 0, 0, 1}, {1}, {-1, 1}, {20, 1}, {-20, 2}, {-400, 0, 1}, {6, -7, 0, 1},
    {3, 0, 0, 0, 1}, {LEAST}, {GREATEST, LEAST, 1}, {9, 8, 7, 6, 5, 4, 3, -1}, {1, 1, 1, 1, 1, 1},
    {0, 0, 0, LEAST}, {0, 0, 0, 0, 0, 0, 1 << 16}, {0, 0, 0, 0, 0, 0, 0, 0, GREATEST}
  };

  private final Checks checks = new Checks();

  private GridTest() {}

  public static void main(String[] args) {
    GridTest test = new GridTest();
    for (int count : COUNTS) {
      for (String call : Calls.FACE) {
        test.withAll(count, call, new int[0]);
      }
    }
    test.checks.end("GridTest");
  }

  /** Fills in the arguments from the left to the right. */
  private void withAll(int count, String call, int[] arguments) {
    String letters = Calls.letters(call);
    if (checks.wrong() >= MOST_WRONG) {
      return;
    }
    if (arguments.length == letters.length()) {
      compare(count, Calls.name(call), arguments);
      return;
    }
    for (int value : values(count, letters.charAt(arguments.length))) {
      int[] more = Arrays.copyOf(arguments, arguments.length + 1);
      more[arguments.length] = value;
      withAll(count, call, more);
    }
  }

  private void compare(int count, String name, int[] arguments) {
    int[][] rows = Arrays.copyOf(ROWS, Math.min(count, ROWS.length - LAST_ROWS));
    PolyKitchen kitchen = Calls.build(new PolyKitchen(), rows);
    ModelKitchen model = Calls.build(new ModelKitchen(), rows);
    for (int recipe = rows.length; recipe < count; recipe++) {
      put(kitchen, ROWS[recipe]);
      put(model, ROWS[recipe]);
    }
    String what = name + Arrays.toString(arguments) + " with " + count;
    String want = Calls.outcome(model, name, arguments);
    checks.due(what, Calls.outcome(kitchen, name, arguments), want);
    checks.due(what + " leaves the amounts", Calls.state(kitchen), Calls.state(model));
  }

  /** The last rows have one part each: there is no room left to make greater amounts of two. */
  private static void put(Object target, int[] row) {
    int recipe = Integer.parseInt(Calls.outcome(target, "addRecipe"));
    for (int power = 0; power < row.length; power++) {
      if (row[power] != 0) {
        Calls.outcome(target, "set", recipe, power, 1);
        Calls.outcome(target, "scale", recipe, row[power]);
      }
    }
  }

  private static int[] values(int count, char letter) {
    return switch (letter) {
      case 'r' -> recipes(count);
      case 'p' -> POWERS;
      case 'a' -> AMOUNTS;
      case 'f' -> FACTORS;
      case 's' -> SHIFTS;
      case 'g' -> GUESTS;
      case 'u' -> MOST_GUESTS;
      default -> places();
    };
  }

  private static int[] recipes(int count) {
    List<Integer> recipes = new ArrayList<>(List.of(LEAST, GREATEST));
    for (int recipe = -1; recipe <= count; recipe++) {
      recipes.add(recipe);
    }
    return recipes.stream().mapToInt(Integer::intValue).toArray();
  }

  private static int[] places() {
    int[] places = new int[LONGEST_TEXT + 4];
    for (int place = 0; place < places.length; place++) {
      places[place] = place - 1;
    }
    places[places.length - 2] = LEAST;
    places[places.length - 1] = GREATEST;
    return places;
  }
}
