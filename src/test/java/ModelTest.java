import java.util.ArrayList;
import java.util.Arrays;
import java.util.List;
import java.util.Random;

/** Runs of drawn calls, each answer held beside that of the slow model (promises 1 to 42). */
public final class ModelTest {
  private static int wrong = 0;
  private static long compared = 0;

  private final Random random;
  private final TextMaker maker;
  private final SeasonSeat seat = new SeasonSeat();
  private final Model model = new Model();
  private final List<String> told = new ArrayList<>();
  private boolean failed = false;

  private ModelTest(long seed) {
    random = new Random(seed);
    maker = new TextMaker(random);
  }

  private long both(String name, long... args) {
    long want = model.call(name, args);
    long got = Calls.call(seat, name, args);
    told.add(name + Arrays.toString(args) + " = " + got);
    compared++;
    if (got != want && !failed) {
      failed = true;
      wrong++;
      System.out.println("due " + want + " at the end of:");
      for (String row : told) System.out.println("  " + row);
    }
    return want;
  }

  private int below(int n) { return random.nextInt(n); }

  private void board(String text) {
    byte[] bytes = TextMaker.bytes(text);
    told.add("text: " + text);
    for (long[] f : Calls.feeds(bytes)) both("feed", f);
    both("train", bytes.length);
    both("fault", 0);
    both("fault", 1);
  }

  private long argument(String name, int i) {
    if (below(25) == 0) return new long[] {-1, Integer.MIN_VALUE, Integer.MAX_VALUE, 5, 10, 100000}[below(6)];
    switch (name + i) {
      case "stops0": return below(12);
      case "rider1": return below(16);
      case "undo0": return 1 + below(3);
      case "month0": return below(11);
      case "journey0": return random.nextInt();
      case "journey1": return below(42);
      case "lies1": return below(20) == 0 ? below(3000) : below(12);
      case "way1": return below(8);
      case "rows1": return below(6) == 0 ? 12 : below(6);
      case "placing0": return below(22);
      case "placing1": return below(3) == 0 ? below(2) : 10 + below(5);
      case "chance1": case "mean0": return below(8);
      case "numbers1": return below(5);
      case "numbers2": return below(4) == 0 ? below(42) : below(6);
      case "write1": return below(6);
      case "write2": return written();
      case "count0": return below(10);
      case "train0": return below(40);
      case "round0": case "trades1": case "chance2": case "mean1": return below(2);
      default: return below(name.equals("image") || name.equals("restore") ? 2 : 5);
    }
  }

  private long written() {
    switch (below(8)) {
      case 0: return 10 + below(5);
      case 1: return 20 + below(10);
      case 2: case 3: return 100 + below(5) * 10 + below(5);
      case 4: return random.nextLong();
      default: return below(5);
    }
  }

  /** Warmths as they come with some season, so that what is felt is often so. */
  private void feel() {
    int tray = below(4);
    int r = below(4);
    both("numbers", tray, below(4), 1 + below(3));
    both("lists", tray, r);
    both("seasons", tray, r);
    both("months", tray, r);
    both("attempt", tray, r);
  }

  private void run(int mostRiders, int calls) {
    for (int i = 0; i < calls && !failed; i++) {
      int kind = below(30);
      if (i == 2 || kind == 0) board(below(6) == 0 ? maker.spoilt(maker.text(mostRiders)) : maker.text(mostRiders));
      else if (kind == 1) feel();
      else draw(mostRiders);
    }
  }

  private void draw(int mostRiders) {
    String name = Calls.NAMES[below(Calls.NAMES.length)];
    // The model is slow with many riders: what it would take long for is asked seldom.
    boolean slow = "soonest way keeps most stands forces best rows".contains(name);
    if (slow && mostRiders == 4 && below(12) != 0) name = "stop";
    if (name.equals("train") && below(4) != 0) name = "by";
    long[] args = new long[Calls.arity(name)];
    for (int i = 0; i < args.length; i++) args[i] = argument(name, i);
    both(name, args);
    if (name.equals("soonest")) both("way", args[0], below(4));
    if (name.equals("forces")) both("best", args[0], args[1]);
  }

  public static void main(String[] args) {
    int runs = args.length > 0 ? Integer.parseInt(args[0]) : 400;
    long from = args.length > 1 ? Long.parseLong(args[1]) : 1;
    for (int i = 0; i < runs && wrong < 5; i++) new ModelTest(from + i).run(2 + i % 2, 160);
    for (int i = 0; i < runs / 8 && wrong < 5; i++) new ModelTest(from + 1000000 + i).run(4, 160);
    System.out.println(compared + " answers compared, " + wrong + " runs wrong");
    if (wrong != 0) System.exit(1);
  }
}
