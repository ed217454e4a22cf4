import java.util.ArrayList;
import java.util.Arrays;
import java.util.List;

/**
 * All that can be seen of an object, the tape, what can be undone, trays and images too. To look uses the object up, so
 * what a call changed is seen by two objects made alike: one with the call, one without it.
 */
final class Look {
  interface Made { SeasonSeat make(); }
  interface Ask { long of(SeasonSeat x); }

  private final List<String> seen = new ArrayList<>();
  private final SeasonSeat x;

  private Look(SeasonSeat x) { this.x = x; }

  /** What differs between an object made so and one that was asked, too; empty if nothing does. */
  static String changed(Made made, SeasonSeat asked) {
    return difference(whole(made.make()), whole(asked));
  }

  /** As changed(), but for what a text that was read and had a fault is told to change: the tape and the fault. */
  static String changedBesideTape(Made made, SeasonSeat asked) {
    List<String> before = new Look(made.make()).carriage();
    List<String> behind = new Look(asked).carriage();
    return difference(before, behind);
  }

  private static String difference(List<String> before, List<String> behind) {
    for (int i = 0; i < before.size(); i++) {
      if (i >= behind.size() || !before.get(i).equals(behind.get(i))) {
        return before.get(i) + " became " + (i < behind.size() ? behind.get(i) : "nothing");
      }
    }
    return "";
  }

  private static List<String> whole(SeasonSeat x) {
    Look look = new Look(x);
    look.see("fault", 0);
    look.see("fault", 1);
    look.see("count", 7);
    look.carriage();
    look.see("train", x.count(7));
    look.see("fault", 1);
    look.stand();
    return look.seen;
  }

  private void see(String name, long... args) { seen.add(name + Arrays.toString(args) + " = " + Calls.call(x, name, args)); }

  private List<String> carriage() {
    stand();
    see("count", 8);
    for (int r = 0; r < 4; r++) for (int what : new int[] {1, 10, 11, 12, 13}) see("rider", r, what);
    for (int deed = 0; deed < 4; deed++) {
      see("why", deed);
      for (int r = 0; r < 4; r++) see("by", deed, r);
    }
    trays();
    past();
    for (int i = 0; i < 2; i++) {
      see("restore", i);
      stand();
    }
    return seen;
  }

  private void stand() {
    for (int what : new int[] {0, 1, 4, 5, 6}) see("count", what);
    for (int r = 0; r < 4; r++) for (int what : new int[] {0, 2, 3}) see("rider", r, what);
  }

  /** What is in a tray by what is judged of it, then how many numbers of how many bits it has. */
  private void trays() {
    for (int tray = 0; tray < 4; tray++) {
      for (int what = 0; what < 4; what++) see("judge", tray, what);
      see("seasons", tray, 0);
      see("months", tray, 0);
      for (int i = 0; i < 5; i++) see("write", tray, i, 0x1234567890abcdefL);
    }
  }

  private void past() {
    for (int i = 0; i < 11; i++) {
      see("undo", 1);
      for (int what : new int[] {1, 2, 4, 5, 6}) see("count", what);
      see("rider", 0, 0);
    }
  }
}
