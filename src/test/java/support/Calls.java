/** The face by names, so that tests can hold one object beside another. */
final class Calls {
  static final String[] NAMES = {"feed", "train", "fault", "rider", "seat", "why", "by", "stop", "stops", "give", "rug",
      "month", "undo", "judge", "perform", "journey", "lies", "round", "when", "soonest", "way", "rows", "keeps", "most",
      "stands", "placing", "trades", "glad", "seasons", "months", "attempt", "forces", "best", "chance", "mean", "numbers",
      "write", "lists", "image", "restore", "count"};

  /** How many arguments each takes. */
  static int arity(String name) {
    switch (name) {
      case "feed": return 5;
      case "stands": case "glad": return 0;
      case "chance": case "numbers": case "write": return 3;
      case "rider": case "by": case "give": case "judge": case "journey": case "lies": case "way": case "rows":
      case "placing": case "trades": case "seasons": case "months": case "attempt": case "forces": case "best":
      case "mean": case "lists": return 2;
      default: return 1;
    }
  }

  static long call(SeasonSeat x, String name, long... v) {
    int[] a = new int[v.length];
    for (int i = 0; i < v.length; i++) a[i] = (int) v[i];
    switch (name) {
      case "feed": return x.feed(a[0], a[1], a[2], a[3], a[4]);
      case "train": return x.train(a[0]);
      case "fault": return x.fault(a[0]);
      case "rider": return x.rider(a[0], a[1]);
      case "seat": return x.seat(a[0]);
      case "why": return x.why(a[0]);
      case "by": return x.by(a[0], a[1]);
      case "stop": return x.stop(a[0]);
      case "stops": return x.stops(a[0]);
      case "give": return x.give(a[0], a[1]);
      case "rug": return x.rug(a[0]);
      case "month": return x.month(a[0]);
      case "undo": return x.undo(a[0]);
      case "judge": return x.judge(a[0], a[1]);
      case "perform": return x.perform(a[0]);
      case "journey": return x.journey(a[0], a[1]);
      case "lies": return x.lies(a[0], a[1]);
      case "round": return x.round(a[0]);
      case "when": return x.when(a[0]);
      case "soonest": return x.soonest(a[0]);
      case "way": return x.way(a[0], a[1]);
      case "rows": return x.rows(a[0], a[1]);
      case "keeps": return x.keeps(a[0]);
      case "most": return x.most(a[0]);
      case "stands": return x.stands();
      case "placing": return x.placing(a[0], a[1]);
      case "trades": return x.trades(a[0], a[1]);
      case "glad": return x.glad();
      case "seasons": return x.seasons(a[0], a[1]);
      case "months": return x.months(a[0], a[1]);
      case "attempt": return x.attempt(a[0], a[1]);
      case "forces": return x.forces(a[0], a[1]);
      case "best": return x.best(a[0], a[1]);
      case "chance": return x.chance(a[0], a[1], a[2]);
      case "mean": return x.mean(a[0], a[1]);
      case "numbers": return x.numbers(a[0], a[1], a[2]);
      case "write": return x.write(a[0], a[1], v[2]);
      case "lists": return x.lists(a[0], a[1]);
      case "image": return x.image(a[0]);
      case "restore": return x.restore(a[0]);
      case "count": return x.count(a[0]);
      default: throw new IllegalArgumentException(name);
    }
  }

  /** The feeds that put a text on the tape; the last one is filled up with blanks. */
  static long[][] feeds(byte[] text) {
    long[][] all = new long[(text.length + 19) / 20][5];
    for (int i = 0; i < all.length * 20; i++) {
      int b = i < text.length ? text[i] & 255 : 32;
      all[i / 20][i % 20 / 4] = (int) (all[i / 20][i % 20 / 4] << 8 | b);
    }
    return all;
  }
}
