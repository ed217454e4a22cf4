/** The document's sentences on what can be asked (promises 18 to 36), each held on both sides of its bound. */
public final class AskBoundsTest {
  private static final Due due = new Due();
  private static final int LEAST = Integer.MIN_VALUE;
  private static final int MOST = Integer.MAX_VALUE;
  private static final int[] NO_WARMTHS = {-1, 5, 6, LEAST, MOST};
  private static final String CLOCK = "warms : if warmth = 4 then 0 else warmth + 1 end;";
  /** Who sits in seat 0 gets warmer. */
  private static final String STOVE = "warms : if seat = 0 then warmth + 1 else warmth end;";
  private static final String STILL = "warms : warmth;";
  private static final String NEVER = "may : 0 = 1;";

  public static void main(String[] args) {
    liesBounds();
    roundBounds();
    roundByAllWarmths();
    whenBounds();
    soonestBounds();
    wayBounds();
    likeRows();
    rowsBounds();
    keepsBounds();
    keepsByEachDeed();
    mostBounds();
    standsBounds();
    placingBounds();
    placingOrder();
    tradesBounds();
    tradesLike();
    tradesRings();
    gladBounds();
    feltRefused();
    feltBounds();
    seasonsFelt();
    monthsFelt();
    attemptLeast();
    attemptCannot();
    attemptNone();
    forcesBounds();
    forcesByTurns();
    bestBounds();
    chanceBounds();
    chanceLots();
    meanBounds();
    withoutRiders();
    fromNowOn();
    fromAnotherText();
    due.end();
  }

  /** Riders of these warmths, rider r of season r, with laws behind them. */
  private static SeasonSeat warmed(String laws, int... warmths) {
    StringBuilder text = new StringBuilder("train month 5;");
    for (int r = 0; r < warmths.length; r++) text.append("rider season ").append(r).append(" class 0 warm ").append(warmths[r]).append(';');
    return due.riding(text + laws);
  }

  private static int[] twos(int n) {
    int[] warmths = new int[n];
    java.util.Arrays.fill(warmths, 2);
    return warmths;
  }

  private static void liesBounds() {
    due.says("lies", "The WARMTH of a RIDER behind n STOPS (0 to 99,999) of SETTLING. -2; -3: n");
    SeasonSeat x = warmed(CLOCK, 3, 0);
    due.is("lies(0, 0)", x.lies(0, 0), 3);
    due.is("lies(1, 0)", x.lies(1, 0), 0);
    for (int n = 1; n < 12; n++) due.is("lies(1, " + n + ")", x.lies(1, n), n % 5);
    due.is("lies(0, 99998)", x.lies(0, 99998), 1);
    due.is("lies(0, 99999)", x.lies(0, 99999), 2);
    for (int n : new int[] {-1, 100000, LEAST, MOST}) due.is("lies(0, " + n + ")", x.lies(0, n), -3);
    for (int r : new int[] {-1, 2, LEAST, MOST}) {
      due.is("lies(" + r + ", 0)", x.lies(r, 0), -2);
      due.is("the rider first", x.lies(r, -1), -2);
      due.is("the rider first", x.lies(r, 100000), -2);
    }
    due.is("nothing is done", x.count(5) + x.count(6), 0);
  }

  private static void roundBounds() {
    due.says("round", "what 0: behind how many STOPS all is first as it comes round for ever, 1: behind how many STOPS it does. -2: what");
    SeasonSeat[] all = {warmed(CLOCK, 3), warmed(STILL, 1, 2), warmed("warms : 4;", 2), warmed("warms : warmth + 1;", 0),
        warmed("warms : if warmth = 4 then 2 else warmth + 1 end;", 0), new SeasonSeat()};
    long[] first = {0, 0, 1, 4, 2, 0};
    long[] again = {5, 1, 1, 1, 3, 1};
    for (int i = 0; i < all.length; i++) {
      due.is("round(0) of " + i, all[i].round(0), first[i]);
      due.is("round(1) of " + i, all[i].round(1), again[i]);
      for (int what : new int[] {-1, 2, 10, LEAST, MOST}) due.is("round " + what, all[i].round(what), -2);
    }
    SeasonSeat lap = warmed("warms : if rider = 0 then if warmth = 4 then 0 else warmth + 1 end else if heat = 4 then "
        + "if warmth = 4 then 0 else warmth + 1 end else warmth end end;", 0, 0);
    due.is("two riders as digits", lap.round(1), 25);
    due.is("from the start", lap.round(0), 0);
  }

  /** Each of the 625 ways in which four can be warm comes once, then the first again: no course is longer. */
  private static void roundByAllWarmths() {
    due.says("round", "behind how many STOPS all is first as it comes round for ever, 1: behind how many STOPS it does");
    String sum = "(heat + class + if beside = 2 and warmth > 2 then 2 else 0 end)";
    SeasonSeat x = due.riding("train month 5;rider season 0 class 1 warm 0;" + "rider season 0 class 0 warm 0;".repeat(3)
        + "warms : if V > 9 then V - 10 else if V > 4 then V - 5 else V end end;".replace("V", sum));
    due.is("it comes round from now on", x.round(0), 0);
    due.is("by all ways", x.round(1), 625);
    int[] warmths = new int[4];
    for (int n = 0; n < 626; n++) {
      // Each call on one object counts, so only the first and the last stops are asked for.
      if (n < 5 || n > 620) for (int r = 0; r < 4; r++) due.is("lies(" + r + ", " + n + ")", x.lies(r, n), warmths[r]);
      int[] w = warmths;
      warmths = new int[] {(w[1] + 1) % 5, (w[0] + w[2] + (w[1] > 2 ? 2 : 0)) % 5, (w[1] + w[3] + (w[2] > 2 ? 2 : 0)) % 5, w[2]};
    }
    for (int r = 0; r < 4; r++) due.is("round and round", x.lies(r, 99999), x.lies(r, 99999 % 625));
    due.is("all are warm once", x.when(4) > 0 ? x.lies(0, x.when(4)) : -1, 4);
  }

  private static void whenBounds() {
    due.says("when", "Behind how many STOPS of SETTLING all are first WARM by k (0: they are). NONE: never; -3: k");
    SeasonSeat x = warmed(CLOCK, 0);
    for (int k = 0; k <= 4; k++) due.is("when(" + k + ")", x.when(k), k);
    SeasonSeat two = warmed(CLOCK, 0, 1);
    long[] whens = {0, 1, 2, 3, -1};
    for (int k = 0; k <= 4; k++) due.is("two, when(" + k + ")", two.when(k), whens[k]);
    SeasonSeat last = warmed(CLOCK, 0, 0);
    due.is("the last as it comes round", last.when(4), 4);
    SeasonSeat still = warmed(STILL, 3, 2);
    long[] stills = {0, 0, 0, -1, -1};
    for (int k = 0; k <= 4; k++) due.is("still, when(" + k + ")", still.when(k), stills[k]);
    for (int k : NO_WARMTHS) due.is("when(" + k + ")", x.when(k), -3);
  }

  private static void soonestBounds() {
    due.says("soonest", "The fewest STOPS of a ROW behind which all are WARM by k. NONE: it can't be; -3: k");
    SeasonSeat x = warmed(STOVE, 0, 0);
    for (int k = 0; k <= 4; k++) due.is("soonest(" + k + ")", x.soonest(k), 2 * k);
    for (int k : NO_WARMTHS) due.is("soonest(" + k + ")", x.soonest(k), -3);
    SeasonSeat shut = warmed(STOVE + NEVER, 0, 1);
    long[] fewest = {0, 1, -1, -1, -1};
    for (int k = 0; k <= 4; k++) due.is("without changes, soonest(" + k + ")", shut.soonest(k), fewest[k]);
    due.is("all are", warmed(STILL, 4, 4).soonest(4), 0);
    due.is("one is not", warmed(STILL, 4, 3).soonest(4), -1);
    due.is("nothing is done", x.count(5) + x.count(6), 0);
  }

  private static void wayBounds() {
    due.says("way", "The i-th DEED of it. NONE: not so many, it can't be; -3: k, i is below 0");
    SeasonSeat x = warmed(STOVE, 0, 0);
    long[] row = {0, 0, 0, 0, 1, 0, 0, 0};
    for (int i = 0; i < 8; i++) due.is("way(4, " + i + ")", x.way(4, i), row[i]);
    for (int i : new int[] {8, 9, 100, MOST}) due.is("not so many", x.way(4, i), -1);
    due.is("none is needed", x.way(0, 0), -1);
    for (int i : new int[] {-1, LEAST}) {
      due.is("i is below 0", x.way(4, i), -3);
      due.is("ahead of NONE", x.way(0, i), -3);
    }
    for (int k : NO_WARMTHS) {
      due.is("k", x.way(k, 0), -3);
      due.is("k", x.way(k, MOST), -3);
    }
    SeasonSeat shut = warmed(STOVE + NEVER, 0, 0);
    due.is("it can't be", shut.way(1, 0), -1);
    due.is("ahead of NONE", shut.way(1, -1), -3);
  }

  private static void likeRows() {
    due.says("3.", "Of like ROWS the first: by DEEDS as numbers");
    // All three changes and doing nothing lead to it.
    due.is("0 first", warmed("warms : 4;", 0, 0, 0, 0).way(4, 0), 0);
    due.is("then 1", warmed("warms : if seat = rider then warmth else 4 end;", 4, 0, 0, 4).way(4, 0), 2);
    SeasonSeat x = warmed("warms : if rider = 1 and not seat = 1 then 4 else warmth end;", 4, 0, 4);
    due.is("1 ahead of 2", x.way(4, 0), 1);
    due.is("one stop", x.soonest(4), 1);
    // Rows of two: 1 3, 3 1 warm all four, 1 2 and the like don't; 1 is first.
    SeasonSeat y = warmed("warms : if seat = rider then warmth else 4 end;", 0, 0, 0, 0);
    due.is("two stops", y.soonest(4), 2);
    due.is("first", y.way(4, 0), 1);
    due.is("second", y.way(4, 1), 3);
  }

  private static void rowsBounds() {
    due.says("rows", "How many ROWS of just n STOPS (0 to 12) behind which all are WARM by k. -3: k, n");
    SeasonSeat x = warmed(STOVE, 0, 0);
    // Both must have been in seat 0 some time: all rows but the two in which one of them is there always.
    for (int n = 0; n <= 12; n++) {
      due.is("rows(0, " + n + ")", x.rows(0, n), 1L << n);
      due.is("rows(1, " + n + ")", x.rows(1, n), n == 0 ? 0 : (1L << n) - 2);
    }
    for (int n : new int[] {-1, 13, LEAST, MOST}) for (int k = 0; k <= 4; k++) due.is("rows(" + k + ", " + n + ")", x.rows(k, n), -3);
    for (int k : NO_WARMTHS) {
      due.is("rows(" + k + ", 0)", x.rows(k, 0), -3);
      due.is("rows(" + k + ", 12)", x.rows(k, 12), -3);
    }
    long[] most = {1, 1, 4096, 531441, 16777216};
    for (int n = 0; n <= 4; n++) due.is(n + " riders", warmed(STILL, twos(n)).rows(2, 12), most[n]);
    due.is("without changes", warmed(STILL + NEVER, twos(4)).rows(2, 12), 1);
    due.is("just n, not fewer", warmed(CLOCK, 0).rows(4, 4), 1);
    due.is("just n, not fewer", warmed(CLOCK, 0).rows(4, 5), 0);
    due.is("now", warmed(STILL, 3).rows(3, 0), 1);
    due.is("now", warmed(STILL, 3).rows(4, 0), 0);
  }

  private static void keepsBounds() {
    due.says("keeps", "The most STOPS of a ROW so that behind each of its STOPS all are WARM by k. NONE: for ever; -3: k");
    SeasonSeat cooling = warmed("warms : warmth - 1;", 4);
    long[] stops = {-1, 3, 2, 1, 0};
    for (int k = 0; k <= 4; k++) due.is("keeps(" + k + ")", cooling.keeps(k), stops[k]);
    for (int k : NO_WARMTHS) due.is("keeps(" + k + ")", cooling.keeps(k), -3);
    SeasonSeat cold = warmed("warms : if warmth = 0 then 4 else warmth - 1 end;", 0);
    long[] later = {-1, 4, 3, 2, 1};
    for (int k = 0; k <= 4; k++) due.is("now is not looked at, keeps(" + k + ")", cold.keeps(k), later[k]);
    // Who sits in seat 0 gets colder: by changes each can do so once.
    SeasonSeat turns = warmed("warms : if seat = 0 then warmth - 1 else warmth end;", 2, 2);
    due.is("by changes", turns.keeps(1), 2);
    due.is("not one", turns.keeps(2), 0);
    due.is("without changes", warmed("warms : if seat = 0 then warmth - 1 else warmth end;" + NEVER, 2, 2).keeps(1), 1);
    due.is("for ever", warmed(STILL, 4, 4, 4, 4).keeps(4), -1);
    due.is("for ever by changes alone", warmed("warms : if seat = rider then 0 else 4 end;may : rider < 2;", 0, 0).keeps(4), -1);
    // The longest, not the first: doing nothing cools at once, the change a stop later.
    due.is("the longest", warmed("warms : if seat = rider then warmth - 2 else warmth - 1 end;", 4, 4).keeps(1), 3);
  }

  private static void keepsByEachDeed() {
    due.says("keeps", "NONE: for ever");
    due.is("by deed 0 alone", warmed("warms : if seat = rider then 4 else 0 end;", 0, 0, 0, 0).keeps(4), -1);
    // The last rider must go to and fro each time: its warmth, 4 or 3, tells where it was.
    for (int deed = 1; deed <= 3; deed++) {
      int[] fours = new int[deed + 1];
      java.util.Arrays.fill(fours, 4);
      String law = "warms : if rider < " + deed + " then 4 else if seat = " + deed + " and warmth = 3 then 4 else if seat = " + (deed - 1)
          + " and warmth = 4 then 3 else 0 end end end;";
      due.is("by deed " + deed + " alone", warmed(law, fours).keeps(3), -1);
      due.is("to, but not fro", warmed(law, fours).keeps(4), 0);
      due.is("to, but not fro", warmed(law + "may : rider < " + deed + " or seat < " + deed + ";", fours).keeps(3), 1);
    }
    for (int n = 1; n <= 4; n++) {
      int[] fours = new int[n];
      java.util.Arrays.fill(fours, 4);
      for (int k = 1; k <= 4; k++) due.is(n + " cool down", warmed("warms : warmth - 1;", fours).keeps(k), 4 - k);
    }
  }

  private static void mostBounds() {
    due.says("most", "The most WARMTH a RIDER can come to have by some ROW (now, too). -2");
    due.is("now, too", warmed("warms : 0;", 3, 1).most(0), 3);
    due.is("now, too", warmed("warms : 0;", 3, 1).most(1), 1);
    due.is("by changes", warmed(STOVE, 0, 0, 0, 0).most(3), 4);
    due.is("without changes", warmed(STOVE + NEVER, 0, 0).most(1), 0);
    due.is("on the way", warmed("warms : if warmth = 3 then 0 else warmth + 1 end;", 1).most(0), 3);
    for (int n = 0; n <= 4; n++) for (int r : new int[] {-1, n, LEAST, MOST}) due.is("most(" + r + ")", warmed(STILL, twos(n)).most(r), -2);
    due.is("the last rider", warmed(STILL, twos(4)).most(3), 2);
  }

  private static void standsBounds() {
    due.says("stands", "In how many ways WARMTHS and SEATS can be by some ROW (as they are, too)");
    long[] seatings = {1, 1, 2, 6, 24};
    for (int n = 0; n <= 4; n++) {
      due.is(n + " riders", warmed(STILL, twos(n)).stands(), seatings[n]);
      due.is(n + " riders, without changes", warmed(STILL + NEVER, twos(n)).stands(), 1);
    }
    due.is("as they are, too", warmed("warms : 0;", 3).stands(), 2);
    due.is("five", warmed(CLOCK, 2).stands(), 5);
    due.is("all of two", warmed("warms : if seat = 0 then if warmth = 4 then 0 else warmth + 1 end else warmth end;", 0, 0).stands(), 50);
    due.is("all of four", warmed("warms : if seat = 0 then if warmth = 4 then 0 else warmth + 1 end else warmth end;", 0, 0, 0, 0).stands(), 15000);
  }

  private static void placingBounds() {
    due.says("placing", "what 0: the least WARMTH, 1: all together, 10 + r: the SEAT of RIDER r. NONE: there are no RIDERS; -2: what (10 and a RIDER); -3: n");
    for (int n = 0; n <= 4; n++) {
      SeasonSeat x = warmed(STILL, twos(n));
      due.is(n + " riders, least", x.placing(0, 0), n == 0 ? -1 : 2);
      due.is(n + " riders, all", x.placing(20, 1), n == 0 ? -1 : 2 * n);
      for (int r = 0; r < 5; r++) due.is(n + " riders, seat of " + r, x.placing(0, 10 + r), r < n ? r : -2);
      for (int what : new int[] {-1, 2, 3, 9, 14, 15, LEAST, LEAST + 9, MOST}) {
        due.is("what " + what, x.placing(0, what), -2);
        due.is("what ahead of n", x.placing(21, what), -2);
      }
      for (int stops : new int[] {-1, 21, LEAST, MOST}) {
        due.is("n " + stops, x.placing(stops, 0), -3);
        due.is("n ahead of NONE", x.placing(stops, 1), -3);
      }
    }
    due.says("PLACING", "behind n STOPS (0 to 20) at which nothing is done");
    SeasonSeat clock = warmed(CLOCK, 0);
    for (int n = 0; n <= 20; n++) due.is("placing(" + n + ", 0)", clock.placing(n, 0), n % 5);
    SeasonSeat shut = warmed("warms : if seat = rider then 0 else 4 end;" + NEVER, 2, 2);
    due.is("in any order, the law may is not asked", shut.placing(1, 0), 4);
    due.is("seat of 0", shut.placing(1, 10), 1);
    SeasonSeat moved = warmed(STILL, 1, 2, 3);
    moved.stop(1);
    moved.stop(2);
    for (int r = 0; r < 3; r++) due.is("the first order, wherever they sit", moved.placing(0, 10 + r), r);
    due.is("warmths as now", moved.placing(3, 1), 6);
    due.is("nothing is done", moved.seat(0) * 10 + moved.count(5), 12);
  }

  private static void placingOrder() {
    due.says("PLACING", "the greatest least WARMTH, of like ones the greatest of all together, of like ones the first order (RIDER by RIDER its SEAT, least first)");
    SeasonSeat least = warmed("warms : if seat = rider then if rider = 0 then 1 else 4 end else 2 end;", 2, 2);
    due.is("least ahead of all", least.placing(1, 0), 2);
    due.is("least ahead of all", least.placing(1, 1), 4);
    due.is("least ahead of all", least.placing(1, 10), 1);
    SeasonSeat stay = warmed("warms : if seat = rider then 2 else if rider = 0 then 1 else 4 end end;", 2, 2);
    due.is("least ahead of all", stay.placing(1, 10), 0);
    due.is("least ahead of all", stay.placing(1, 1), 4);
    SeasonSeat all = warmed("warms : if seat = rider then 2 else 2 + rider end;", 2, 2);
    due.is("all together", all.placing(1, 10), 1);
    due.is("all together", all.placing(1, 1), 5);
    SeasonSeat order = warmed("warms : if rider = 0 and not seat = 1 then 0 else 3 end;", 2, 2, 2);
    long[] seats = {1, 0, 2};
    for (int r = 0; r < 3; r++) due.is("the first order, seat of " + r, order.placing(1, 10 + r), seats[r]);
    // None may keep its seat: riders 0, 1, 2 in 1, 2, 0 or in 2, 0, 1.
    SeasonSeat ring = warmed("warms : if seat = rider then 0 else 3 end;", 2, 2, 2);
    long[] first = {1, 2, 0};
    for (int r = 0; r < 3; r++) due.is("rider by rider its seat, seat of " + r, ring.placing(1, 10 + r), first[r]);
    SeasonSeat four = warmed("warms : if seat = rider then 0 else 3 end;", 2, 2, 2, 2);
    long[] pairs = {1, 0, 3, 2};
    for (int r = 0; r < 4; r++) due.is("of four, seat of " + r, four.placing(1, 10 + r), pairs[r]);
    SeasonSeat last = warmed("warms : if seat = 3 - rider then 4 else 0 end;", 2, 2, 2, 2);
    for (int r = 0; r < 4; r++) due.is("the last order of all, seat of " + r, last.placing(20, 10 + r), 3 - r);
  }

  private static SeasonSeat liking(String... likes) {
    StringBuilder text = new StringBuilder("train month 0;");
    for (int r = 0; r < likes.length; r++) text.append("rider season ").append(r).append(" class 0 likes ").append(likes[r]).append(';');
    return due.riding(text.toString());
  }

  private static void traded(SeasonSeat x, long[] tickets, long[] times, long glad) {
    for (int r = 0; r < tickets.length; r++) {
      due.is("ticket of " + r, x.trades(r, 0), tickets[r]);
      due.is("time of " + r, x.trades(r, 1), times[r]);
    }
    due.is("glad", x.glad(), glad);
  }

  private static void tradesBounds() {
    due.says("trades", "what 0: whose ticket a RIDER has in the end, 1: in which time its ring is found. -2: the RIDER, what");
    SeasonSeat x = liking("0 9 0 0", "9 0 0 0", "0 0 0 0");
    for (int r : new int[] {-1, 3, 4, LEAST, MOST}) for (int what : new int[] {0, 1, 2}) due.is("rider " + r, x.trades(r, what), -2);
    for (int what : new int[] {-1, 2, 3, LEAST, MOST}) due.is("what " + what, x.trades(0, what), -2);
    due.is("the last rider", x.trades(2, 0), 2);
    due.is("alone", liking("0 9 9 9").trades(0, 0), 0);
    due.is("nothing is given on", x.rider(0, 0) + x.count(6), 0);
  }

  private static void tradesLike() {
    due.says("TRADING", "of like ones to itself, then to the least RIDER");
    traded(liking("0 0 0 0", "0 0 0 0", "0 0 0 0", "0 0 0 0"), new long[] {0, 1, 2, 3}, new long[] {0, 0, 0, 0}, 0);
    traded(liking("9 9 9 9", "9 9 9 9"), new long[] {0, 1}, new long[] {0, 0}, 0);
    // Rider 2 likes 0 and 1 alike: it points to 0; rider 0 likes 2; rider 1 is left and has its own.
    traded(liking("0 0 5 0", "0 0 5 0", "7 7 0 0"), new long[] {2, 1, 0}, new long[] {0, 1, 0}, 2);
    // Seasons count, not riders: riders 1 and 3 both have season 1, the least one is pointed to.
    SeasonSeat like = due.riding("train month 0;rider season 0 class 0 likes 0 9 0 0;rider season 1 class 0 likes 9 0 0 0;"
        + "rider season 2 class 0 likes 9 9 0 0;rider season 1 class 0 likes 9 0 5 0;");
    traded(like, new long[] {1, 0, 3, 2}, new long[] {0, 0, 1, 1}, 4);
    // Itself ahead of a lesser rider with the same season.
    SeasonSeat own = due.riding("train month 0;rider season 1 class 0 likes 0 0 9 0;rider season 1 class 0 likes 0 9 0 0;rider season 2 class 0 likes 0 9 0 0;");
    traded(own, new long[] {2, 1, 0}, new long[] {0, 0, 0}, 2);
  }

  private static void tradesRings() {
    due.says("TRADING", "those on a ring of such points (one that points to itself, too) have the ticket they point to, and are left no more");
    traded(liking("0 9 0 0", "0 0 9 0", "0 0 0 9", "9 0 0 0"), new long[] {1, 2, 3, 0}, new long[] {0, 0, 0, 0}, 4);
    traded(liking("0 9 0 0", "9 0 0 0", "0 0 0 9", "0 0 9 0"), new long[] {1, 0, 3, 2}, new long[] {0, 0, 0, 0}, 4);
    traded(liking("9 0 0 0", "9 5 0 0", "9 8 7 0", "9 8 7 6"), new long[] {0, 1, 2, 3}, new long[] {0, 1, 2, 3}, 0);
    // Rider 0 has its own; 1, 2, 3 liked that most and come to a ring only then.
    traded(liking("9 0 0 0", "9 0 5 0", "9 0 0 5", "9 5 0 0"), new long[] {0, 2, 3, 1}, new long[] {0, 1, 1, 1}, 3);
    SeasonSeat x = liking("0 9 0 0", "9 0 0 0");
    x.give(0, 1);
    traded(x, new long[] {0, 1}, new long[] {0, 0}, 0);
  }

  private static void gladBounds() {
    due.says("glad", "How many RIDERS like the SEASON they have in the end more than their own");
    due.is("without riders", new SeasonSeat().glad(), 0);
    due.is("alone", liking("0 9 9 9").glad(), 0);
    due.is("as much is not more", liking("5 5 0 0", "5 5 0 0").glad(), 0);
    due.is("two of two", liking("0 1 0 0", "1 0 0 0").glad(), 2);
    due.is("by one", liking("8 9 0 0", "9 8 0 0").glad(), 2);
  }

  private static void feltRefused() {
    due.says("seasons, months, attempt", "-2: the TRAY, the RIDER; -6; -4: not 1 to 10 numbers; -3: one is not 0 to 4");
    SeasonSeat x = warmed(STILL, 2, 2);
    for (int tray : new int[] {-1, 4, LEAST, MOST}) felt(x, tray, 0, -2);
    for (int tray : new int[] {-1, 0, 4}) for (int r : new int[] {-1, 2, LEAST, MOST}) felt(x, tray, r, -2);
    felt(x, 0, 0, -6);
    felt(x, 3, 1, -6);
    due.fill(x, 0);
    felt(x, 0, 0, -4);
    felt(x, 0, 2, -2);
    due.fill(x, 0, 2, 2, 2, 2, 2, 2, 2, 2, 2, 2, 2);
    felt(x, 0, 0, -4);
    due.fill(x, 1, 2, 2, 2, 2, 2, 2, 2, 2, 2, 5, 2);
    felt(x, 1, 0, -4);
    due.fill(x, 2, new long[40]);
    felt(x, 2, 0, -4);
    SeasonSeat y = warmed(STILL, 2, 2);
    for (long v : new long[] {-1, 5, 6, Long.MIN_VALUE, Long.MAX_VALUE, 1L << 32, (1L << 32) + 2, 256 + 2}) {
      due.fill(y, 0, v);
      felt(y, 0, 0, -3);
      due.fill(y, 0, 2, 2, 2, 2, 2, 2, 2, 2, 2, v);
      felt(y, 0, 1, -3);
      due.fill(y, 0, 3, v);
      felt(y, 0, 1, -3);
    }
    felt(new SeasonSeat(), 0, 0, -2);
  }

  private static void felt(SeasonSeat x, int tray, int r, long code) {
    due.is("seasons(" + tray + ", " + r + ")", x.seasons(tray, r), code);
    due.is("months(" + tray + ", " + r + ")", x.months(tray, r), code);
    due.is("attempt(" + tray + ", " + r + ")", x.attempt(tray, r), code);
  }

  private static void feltBounds() {
    due.says("FELT", "in a TRAY (1 to 10 numbers): WARMTHS of a RIDER behind one STOP after another from now on");
    SeasonSeat x = warmed(CLOCK, 2, 0);
    due.fill(x, 0, 3);
    due.is("one", x.seasons(0, 0), 15);
    due.is("one", x.months(0, 0), 1023);
    due.fill(x, 0, 3, 4, 0, 1, 2, 3, 4, 0, 1, 2);
    due.is("ten", x.seasons(0, 0), 15);
    due.is("ten", x.months(0, 0), 1023);
    due.is("of another one", x.seasons(0, 1), 0);
    due.fill(x, 0, 3, 4, 0, 1, 2, 3, 4, 0, 1, 3);
    due.is("the tenth is not so", x.seasons(0, 0), 0);
    due.is("the tenth is not so", x.months(0, 0), 0);
    due.fill(x, 0, 2);
    due.is("not now, but behind a stop", x.seasons(0, 0), 0);
    for (int w = 0; w <= 4; w++) {
      SeasonSeat still = warmed(STILL, w);
      due.fill(still, 0, w);
      due.is("warmth " + w, still.seasons(0, 0), 15);
      due.fill(still, 0, 4 - w);
      due.is("warmth " + (4 - w), still.months(0, 0), w == 2 ? 1023 : 0);
    }
    SeasonSeat cut = warmed(STILL, 2);
    cut.numbers(0, 0, 1);
    cut.write(0, 0, 258);
    due.is("as it is in the tray", cut.seasons(0, 0), 15);
    due.is("all stays", cut.count(1) * 10 + cut.rider(0, 0), 50);
  }

  private static void seasonsFelt() {
    due.says("FELT", "SEASONS 0 to 3 the RIDER can have");
    SeasonSeat x = warmed("warms : season;", 2, 2);
    for (int s = 0; s <= 4; s++) {
      due.fill(x, 0, s);
      due.is("season " + s, x.seasons(0, 0), s < 4 ? 1 << s : 0);
      due.is("season " + s, x.seasons(0, 1), s < 4 ? 1 << s : 0);
    }
    SeasonSeat beside = warmed("warms : same;", 2, 2, 2);
    due.fill(beside, 0, 1);
    due.is("others' seasons stay", beside.seasons(0, 1), 5);
    due.is("others' seasons stay", beside.seasons(0, 0), 2);
    due.fill(beside, 0, 0);
    due.is("others' seasons stay", beside.seasons(0, 1), 10);
    due.fill(beside, 0, 2);
    due.is("none", beside.seasons(0, 1), 0);
  }

  private static void monthsFelt() {
    due.says("FELT", "MONTHS 0 to 9 there can be");
    SeasonSeat x = warmed("warms : month;", 2);
    for (int m = 0; m <= 4; m++) {
      due.fill(x, 0, m);
      due.is("months of " + m, x.months(0, 0), m < 4 ? 1 << m : 1008);
      due.is("seasons of " + m, x.seasons(0, 0), m < 4 ? 0 : 15);
    }
    SeasonSeat last = warmed("warms : if month = 9 then 1 else 0 end;", 2);
    due.fill(last, 0, 1);
    due.is("month 9", last.months(0, 0), 512);
    due.fill(last, 0, 0);
    due.is("months 0 to 8", last.months(0, 0), 511);
  }

  private static void attemptLeast() {
    due.says("attempt", "the greatest number of these SEASONS by which all WARMTHS are the same then is least, the first");
    // Of rider 1 stop 0 tells none of four seasons apart, stop 1 three, stop 2 two and two, stop 3 two, one and one.
    SeasonSeat x = warmed("warms : if rider = 1 then if seat = 0 then if season = 0 then 1 else 2 end else if seat = 2 then "
        + "if season < 2 then 1 else 2 end else if heat = 4 then 2 else if season < 2 then 1 else season end end end end "
        + "else warmth end;", 2, 2, 2, 0);
    due.fill(x, 0, 2);
    due.is("all four can be", x.seasons(0, 1), 15);
    due.is("the first of like ones", x.attempt(0, 1), 2);
    due.is("none is told apart", x.attempt(0, 0), 0);
    due.is("nothing is done", x.count(5) + x.count(6), 0);
    // By the warmth of another rider.
    SeasonSeat other = warmed("warms : if rider = 0 then 2 else if seat = 0 then same else 2 end end;", 2, 2);
    due.fill(other, 0, 2);
    due.is("all WARMTHS", other.attempt(0, 0), 1);
    // Only the seasons that were felt count: seasons 0, 1 behind stop 0, which stop 1 tells apart, stop 2 does not.
    SeasonSeat some = warmed("warms : if not rider = 1 then warmth else if seat = 1 then if season < 2 then 2 else 3 end else "
        + "if seat = 2 then if season = 0 then 0 else 1 end else if season < 2 then 0 else season end end end end;", 2, 2, 2);
    due.fill(some, 0, 2);
    due.is("two can be", some.seasons(0, 1), 3);
    due.is("these SEASONS", some.attempt(0, 1), 2);
    due.fill(some, 0, 3);
    due.is("the others can be", some.seasons(0, 1), 12);
    due.is("these SEASONS", some.attempt(0, 1), 1);
    // Seasons 2 and 3 can be, and all are cold by 2 behind stop 0, which tells them apart; stop 1 does not.
    SeasonSeat cold = due.riding("train month 0;rider season 2 class 0 warm 2;rider season 3 class 0 warm 2;"
        + "warms : if not seat = rider then 4 else if rider = 1 then same else if season > 1 then 0 else 2 end end end;");
    due.fill(cold, 0, 0);
    due.is("two can be", cold.seasons(0, 0), 12);
    due.is("seasons that can't be don't count", cold.attempt(0, 0), 0);
    // The stop is made now, not behind the stops that were felt.
    SeasonSeat now = warmed("warms : if seat = rider then if rider = 0 then 2 else warmth + 1 end else if heat = 0 then season else 2 end end;", 2, 0);
    due.fill(now, 0, 2, 2);
    due.is("to make next", now.attempt(0, 0), 1);
  }

  private static void attemptCannot() {
    due.says("attempt", "(as now, if it can't be)");
    // By seasons 2 and 3 the change can't be: all is as now then.
    SeasonSeat x = warmed("warms : if seat = rider then 2 else 3 end;may : rider = 1 or season < 2;", 2, 2);
    due.fill(x, 0, 2);
    due.is("it tells two and two apart", x.attempt(0, 0), 1);
    SeasonSeat y = warmed("warms : 2;may : rider = 1 or season < 2;", 2, 2);
    due.fill(y, 0, 2);
    due.is("as now is the same as then", y.attempt(0, 0), 0);
    SeasonSeat alone = warmed("warms : 2;", 2);
    due.fill(alone, 0, 2);
    due.is("no other stop can be", alone.attempt(0, 0), 0);
    // Stop 0 itself leaves three alike, a change that can't be all four.
    SeasonSeat shut = warmed("warms : if rider = 1 then same else 2 end;" + NEVER, 2, 0);
    due.fill(shut, 0, 2);
    due.is("nothing is done at it", shut.attempt(0, 0), 0);
  }

  private static void attemptNone() {
    due.says("attempt", "NONE: there are none");
    SeasonSeat x = warmed(STILL, 2, 2);
    due.fill(x, 0, 3);
    due.is("no season", x.seasons(0, 0), 0);
    due.is("no season", x.attempt(0, 0), -1);
    SeasonSeat one = warmed("warms : season;", 2, 2);
    due.fill(one, 0, 3);
    due.is("one season", one.attempt(0, 0), 0);
  }

  private static void forcesBounds() {
    due.says("forces", "within how many STOPS, at fewest (0: it has that). NONE: never; -2: the RIDER; -3: k");
    SeasonSeat x = warmed(STILL, 2, 4);
    long[] fewest = {0, 0, 0, -1, -1};
    for (int k = 0; k <= 4; k++) {
      due.is("forces(0, " + k + ")", x.forces(0, k), fewest[k]);
      due.is("forces(1, " + k + ")", x.forces(1, k), 0);
      due.is("best(0, " + k + ")", x.best(0, k), -1);
    }
    for (int k : NO_WARMTHS) {
      due.is("k " + k, x.forces(0, k), -3);
      due.is("k " + k, x.best(0, k), -3);
    }
    for (int r : new int[] {-1, 2, LEAST, MOST}) {
      for (int k : new int[] {0, 4, 5, -1}) {
        due.is("the rider first", x.forces(r, k), -2);
        due.is("the rider first", x.best(r, k), -2);
      }
    }
    SeasonSeat clock = warmed(CLOCK, 0);
    for (int k = 0; k <= 4; k++) due.is("some time by then, k " + k, clock.forces(0, k), k);
    due.is("nothing is done", x.count(5) + x.count(6), 0);
  }

  private static void forcesByTurns() {
    due.says("FORCING", "two CHANGE SEATS by turns, STOP by STOP (or do nothing), the first one first, whatever the other one does");
    SeasonSeat x = warmed(STOVE, 0, 0);
    // The other one takes it from the stove each time.
    long[] within = {0, 1, 3, 5, 7};
    for (int k = 0; k <= 4; k++) {
      due.is("forces(0, " + k + ")", x.forces(0, k), within[k]);
      due.is("forces(1, " + k + ")", x.forces(1, k), within[k]);
      due.is("best(0, " + k + ")", x.best(0, k), k == 0 ? -1 : 0);
      due.is("best(1, " + k + ")", x.best(1, k), k == 0 ? -1 : 1);
    }
    SeasonSeat three = warmed(STOVE, 0, 0, 0);
    due.is("the other one keeps it off", three.forces(2, 1), -1);
    due.is("the other one keeps it off", three.best(2, 1), -1);
    due.is("the first one alone could", three.soonest(1) > 0 ? 1 : 0, 1);
    due.is("without changes", warmed(STOVE + NEVER, 0, 0).forces(0, 4), 4);
    due.is("without changes", warmed(STOVE + NEVER, 0, 0).forces(1, 1), -1);
    // The second one has the second stop: it warms who was not moved by the first one.
    SeasonSeat second = warmed("warms : if seat = rider then 0 else warmth + 1 end;", 0, 0);
    due.is("behind the first stop", second.forces(0, 1), 1);
    due.is("brought back", second.forces(0, 2), -1);
  }

  private static void bestBounds() {
    due.says("best", "The first DEED by which it does within as few. NONE: it doesn't, it has that");
    due.is("0 first", warmed("warms : 4;", 0, 0, 0, 0).best(2, 4), 0);
    SeasonSeat x = warmed("warms : if rider = 1 and not seat = 1 then 4 else warmth end;", 2, 0, 2);
    due.is("forces", x.forces(1, 4), 1);
    due.is("1 ahead of 2", x.best(1, 4), 1);
    due.is("it has that", x.best(0, 2), -1);
    due.is("it doesn't", x.best(0, 3), -1);
    SeasonSeat three = warmed("warms : if rider = 2 and seat = 3 then 4 else warmth end;", 0, 0, 0, 0);
    due.is("the last deed", three.best(2, 4), 3);
    due.is("by the law", warmed("warms : if rider = 1 and not seat = 1 then 4 else warmth end;may : rider > 0;", 2, 0, 2).best(1, 4), 2);
    // Doing nothing does it, too, but a stop later.
    SeasonSeat slow = warmed("warms : if seat = rider then warmth + 1 else warmth + 2 end;", 2, 2);
    due.is("within as few", slow.forces(0, 4), 1);
    due.is("within as few", slow.best(0, 4), 1);
  }

  private static void chanceBounds() {
    due.says("chance", "all are WARM by k behind n STOPS (0 to 6), what 0: the number above, 1: below, in lowest terms. -2: what; -3: k, n");
    SeasonSeat x = warmed(STILL, 4);
    for (int n = 0; n <= 6; n++) {
      long above = Math.round(Math.pow(9, n));
      due.is("chance(4, " + n + ", 0)", x.chance(4, n, 0), above);
      due.is("chance(4, " + n + ", 1)", x.chance(4, n, 1), Math.round(Math.pow(10, n)));
      due.is("chance(0, " + n + ", 0)", x.chance(0, n, 0), 1);
      due.is("chance(0, " + n + ", 1)", x.chance(0, n, 1), 1);
    }
    for (int n : new int[] {-1, 7, LEAST, MOST}) for (int what = 0; what <= 1; what++) due.is("n " + n, x.chance(0, n, what), -3);
    for (int k : NO_WARMTHS) for (int what = 0; what <= 1; what++) due.is("k " + k, x.chance(k, 0, what), -3);
    for (int what : new int[] {-1, 2, LEAST, MOST}) {
      due.is("what " + what, x.chance(0, 0, what), -2);
      due.is("what first", x.chance(5, 7, what), -2);
    }
    SeasonSeat cold = warmed(STILL, 3);
    due.is("none, above", cold.chance(4, 6, 0), 0);
    due.is("none, below", cold.chance(4, 6, 1), 1);
    due.is("now, above", cold.chance(3, 0, 0), 1);
    due.is("now, below", cold.chance(3, 0, 1), 1);
    due.is("not now, above", cold.chance(4, 0, 0), 0);
    due.is("not now, below", cold.chance(4, 0, 1), 1);
  }

  private static void chanceLots() {
    due.says("CHANCE", "behind each one of ten lots is drawn, each as likely: of lot r the WARMTH of RIDER r is 1 less, if it isn't 0 (of others nothing is)");
    for (int n = 1; n <= 4; n++) {
      int[] fours = new int[n];
      java.util.Arrays.fill(fours, 4);
      SeasonSeat x = warmed(STILL, fours);
      long[] above = {9, 4, 7, 3};
      long[] below = {10, 5, 10, 5};
      due.is(n + " riders, above", x.chance(4, 1, 0), above[n - 1]);
      due.is(n + " riders, below", x.chance(4, 1, 1), below[n - 1]);
    }
    SeasonSeat four = warmed(STILL, 4, 4, 4, 4);
    due.is("six stops, above", four.chance(4, 6, 0), 729);
    due.is("six stops, below", four.chance(4, 6, 1), 15625);
    SeasonSeat behind = warmed("warms : 4;", 0);
    due.is("behind the stop, not ahead of it", behind.chance(4, 1, 0), 9);
    due.is("the latest alone counts", behind.chance(4, 6, 1), 10);
    SeasonSeat zero = warmed(STILL, 0);
    due.is("not below 0", zero.mean(6, 0), 0);
    due.is("not below 0", zero.chance(0, 6, 0), 1);
    // From 1 it is 0 once it was drawn: 9 / 10 to the sixth that it never was.
    SeasonSeat one = warmed(STILL, 1);
    due.is("at 0 it stays, above", one.mean(6, 0), 531441);
    due.is("at 0 it stays, below", one.mean(6, 1), 1000000);
    // A clock goes on from where the lot has put it: 4, then 0 or, if drawn to 3, 4.
    SeasonSeat clock = warmed(CLOCK, 3);
    due.is("the next stop sees it, above", clock.chance(4, 2, 0), 9);
    due.is("the next stop sees it, below", clock.chance(4, 2, 1), 100);
  }

  private static void meanBounds() {
    due.says("mean", "All WARMTHS together on the mean behind n STOPS (0 to 6), what 0: above, 1: below, in lowest terms. -2: what; -3: n");
    SeasonSeat x = warmed(STILL, 4, 4, 4, 4);
    due.is("now, above", x.mean(0, 0), 16);
    due.is("now, below", x.mean(0, 1), 1);
    due.is("one stop, above", x.mean(1, 0), 78);
    due.is("one stop, below", x.mean(1, 1), 5);
    // 16 less 6 times 4 tenths, but none below 0: 4 times 56 millionths come back.
    due.is("six stops, above", x.mean(6, 0), 425007);
    due.is("six stops, below", x.mean(6, 1), 31250);
    for (int n : new int[] {-1, 7, LEAST, MOST}) for (int what = 0; what <= 1; what++) due.is("n " + n, x.mean(n, what), -3);
    for (int what : new int[] {-1, 2, LEAST, MOST}) {
      due.is("what " + what, x.mean(0, what), -2);
      due.is("what first", x.mean(7, what), -2);
    }
    SeasonSeat cold = warmed("warms : 0;", 4);
    due.is("none, above", cold.mean(6, 0), 0);
    due.is("none, below", cold.mean(6, 1), 1);
    due.is("nothing is done", x.count(2) * 10 + x.count(5), 160);
  }

  private static void withoutRiders() {
    due.says("each of them", "without RIDERS");
    SeasonSeat x = new SeasonSeat();
    SeasonSeat y = due.riding("train month 7;warms : 0;may : 0 = 1;");
    for (SeasonSeat none : new SeasonSeat[] {x, y}) {
      for (int k = 0; k <= 4; k++) {
        due.is("when", none.when(k), 0);
        due.is("soonest", none.soonest(k), 0);
        due.is("way", none.way(k, 0), -1);
        for (int n = 0; n <= 12; n++) due.is("rows", none.rows(k, n), 1);
        due.is("keeps", none.keeps(k), -1);
        due.is("chance", none.chance(k, 6, 0), 1);
        due.is("chance", none.chance(k, 6, 1), 1);
        due.is("forces", none.forces(0, k), -2);
        due.is("best", none.best(0, k), -2);
      }
      due.is("lies", none.lies(0, 0), -2);
      due.is("round", none.round(0) * 10 + none.round(1), 1);
      due.is("most", none.most(0), -2);
      due.is("stands", none.stands(), 1);
      due.is("placing", none.placing(0, 0), -1);
      due.is("placing", none.placing(20, 1), -1);
      due.is("trades", none.trades(0, 0), -2);
      due.is("glad", none.glad(), 0);
      due.is("mean", none.mean(6, 0), 0);
      due.is("mean", none.mean(6, 1), 1);
      for (int k : NO_WARMTHS) {
        due.is("when", none.when(k), -3);
        due.is("soonest", none.soonest(k), -3);
        due.is("way", none.way(k, 0), -3);
        due.is("rows", none.rows(k, 0), -3);
        due.is("keeps", none.keeps(k), -3);
        due.is("chance", none.chance(k, 0, 0), -3);
      }
      due.is("way", none.way(4, -1), -3);
      due.is("rows", none.rows(4, 13), -3);
    }
  }

  private static final String[] ASKS = {"round 0", "round 1", "lies 0 3", "when 3", "soonest 3", "soonest 4", "way 4 0", "rows 2 4",
      "keeps 2", "most 1", "stands", "placing 2 10", "trades 0 0", "glad", "forces 1 4", "best 1 4", "forces 0 4", "chance 2 2 0",
      "mean 2 0"};

  private static long ask(SeasonSeat x, String told) {
    String[] parts = told.split(" ");
    long[] args = new long[parts.length - 1];
    for (int i = 0; i < args.length; i++) args[i] = Long.parseLong(parts[i + 1]);
    return Calls.call(x, parts[0], args);
  }

  /** One who was asked all the time beside ones who were not, behind each deed. */
  private static void fromNowOn() {
    due.says("3.", "STOPS from now on");
    String likes = " likes 1 9 5 3";
    String warms = "warms : if season = 0 then warmth + 1 else if heat > month then warmth - 1 + seat else heat - class end end;";
    String three = "train month 3;rider season 0 class 1 warm 0" + likes + ";rider season 1 class 2 warm 3;rider season 2 class 0 warm 1;";
    String[] texts = {three + warms, three + warms + "may : warmth < 3;", three + "warms : if seat = 0 then warmth + 1 else warmth end;",
        three + "rider season 0 class 0 warm 4;", three + "rider season 3 class 1;" + warms + "may : seat > 0 or season < 2;"};
    String[] deeds = {"stop 1", "rug 0", "month 9", "give 0 2", "stop 0", "undo 1", "image 0", "stops 3", "restore 0", "month 3", "stop 2",
        "journey 5 9", "undo 2"};
    for (int t = 0; t < texts.length; t++) {
      SeasonSeat asked = new SeasonSeat();
      due.board(asked, texts[(t + 1) % texts.length]);
      for (String told : ASKS) ask(asked, told);
      due.board(asked, texts[t]);
      for (int i = 0; i <= deeds.length; i++) {
        SeasonSeat fresh = due.riding(texts[t]);
        for (int j = 0; j < i; j++) ask(fresh, deeds[j]);
        if (i > 0) ask(asked, deeds[i - 1]);
        for (String told : ASKS) due.is("text " + t + " behind " + i + " deeds: " + told, ask(asked, told), ask(fresh, told));
      }
    }
  }

  /** A carriage of more riders behind one of fewer, asked on the same object: it has more stands than were ever known. */
  private static void fromAnotherText() {
    due.says("forces", "FORCING: within how many STOPS, at fewest");
    SeasonSeat x = warmed(CLOCK, 0);
    due.is("one rider", x.forces(0, 4), 4);
    due.is("one rider", x.soonest(4), 4);
    due.board(x, "train month 5;rider season 0 class 0 warm 0;rider season 1 class 0 warm 0;" + STOVE);
    due.is("two riders", x.forces(0, 4), 7);
    due.is("two riders", x.best(1, 4), 1);
    due.is("two riders", x.soonest(4), 8);
    due.board(x, "train month 5;rider season 0 class 0 warm 0;" + CLOCK);
    due.is("one rider again", x.forces(0, 3), 3);
    due.is("one rider again", x.stands(), 5);
  }
}
