import java.lang.management.ManagementFactory;

/** All calls of one run live in one room, so 512 of the dearest calls may make next to nothing. */
public final class RoomTest {
  private static final int CALLS = 512;
  private static final long MOST_BYTES = 100_000;

  private RoomTest() {}

  public static void main(String[] args) {
    Checks checks = new Checks();
    // The first round is for what the machine itself makes when a class is used at first.
    bytesOfARun();
    long bytes = bytesOfARun();
    checks.due("a run of digests makes " + bytes + " bytes, too many", bytes > MOST_BYTES, false);
    checks.end("RoomTest");
  }

  private static long bytesOfARun() {
    com.sun.management.ThreadMXBean threads =
        (com.sun.management.ThreadMXBean) ManagementFactory.getThreadMXBean();
    long before = threads.getCurrentThreadAllocatedBytes();
    PolyKitchen kitchen = new PolyKitchen();
    while (kitchen.recipes() < 16) {
      kitchen.set(kitchen.addRecipe(), 8, 999);
      kitchen.shift(kitchen.recipes() - 1, 20);
    }
    for (int call = 0; call < CALLS; call++) {
      kitchen.digest();
    }
    return threads.getCurrentThreadAllocatedBytes() - before;
  }
}
