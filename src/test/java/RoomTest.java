import java.util.Random;

/** Any arguments in any state: no call throws, each ends, and all calls of a run make little. */
public final class RoomTest {
  private static final String OVEN = "train month 0;rider season 0 class 0 warm 0;rider season 1 class 1 warm 0;"
      + "rider season 2 class 2 warm 0;rider season 3 class 3 warm 0;"
      + "warms : if seat = 0 then if warmth = 4 then 0 else warmth + 1 end else warmth end;";
  private static final long[] EDGES = {Integer.MIN_VALUE, Integer.MAX_VALUE, -100, -1, 0, 1, 2, 3, 4, 5, 9, 10, 11, 12, 13,
      14, 20, 21, 40, 41, 99, 100, 900, 99999, 100000, 1 << 29, 1 << 30, -(1 << 30)};

  private static long made() {
    return ((com.sun.management.ThreadMXBean) java.lang.management.ManagementFactory.getThreadMXBean())
        .getThreadAllocatedBytes(Thread.currentThread().getId());
  }

  private static long[] arguments(Random random, String name) {
    long[] args = new long[Calls.arity(name)];
    for (int i = 0; i < args.length; i++) {
      args[i] = random.nextInt(3) == 0 ? EDGES[random.nextInt(EDGES.length)] : random.nextInt(3) == 0 ? random.nextInt() : random.nextInt(5);
    }
    return args;
  }

  /** What one run of 600 calls makes, in bytes; more calls than the document allows must not throw either. */
  private static long run(int seed) {
    Random random = new Random(seed);
    TextMaker maker = new TextMaker(random);
    String[] texts = new String[8];
    for (int i = 0; i < texts.length; i++) texts[i] = i == 0 ? OVEN : i % 3 == 1 ? maker.spoilt(maker.text(4)) : maker.text(4);
    long[][][] feeds = new long[texts.length][][];
    for (int i = 0; i < texts.length; i++) feeds[i] = Calls.feeds(TextMaker.bytes(texts[i]));
    long before = made();
    SeasonSeat x = new SeasonSeat();
    for (int i = 0; i < 600; i++) {
      if (random.nextInt(40) == 0) {
        int t = random.nextInt(texts.length);
        for (long[] f : feeds[t]) Calls.call(x, "feed", f);
        x.train(texts[t].length());
      }
      String name = Calls.NAMES[random.nextInt(Calls.NAMES.length)];
      Calls.call(x, name, arguments(random, name));
    }
    return made() - before;
  }

  /** The dearest calls, behind one deed after another. */
  private static long dear() {
    SeasonSeat x = new SeasonSeat();
    for (long[] f : Calls.feeds(TextMaker.bytes(OVEN))) Calls.call(x, "feed", f);
    x.train(OVEN.length());
    long before = made();
    for (int i = 0; i < 42; i++) {
      x.stop(i % 4);
      x.month(i % 10);
      x.soonest(4);
      x.way(4, 5);
      x.rows(1, 12);
      x.keeps(1);
      x.stands();
      x.forces(3, 4);
      x.best(3, 4);
      x.placing(20, 0);
      x.chance(1, 6, 0);
      x.trades(0, 0);
    }
    return made() - before;
  }

  public static void main(String[] args) {
    long most = 0;
    for (int seed = 0; seed < 150; seed++) most = Math.max(most, run(seed));
    long dear = dear();
    System.out.println("bytes made by one run: " + most + " at most, by the dearest calls: " + dear);
    // 7.3 million elements of 4 bytes are what one room has; a tenth of it is plenty.
    if (most > 2_900_000 || dear > 2_900_000) {
      System.out.println("a run makes too much");
      System.exit(1);
    }
  }
}
