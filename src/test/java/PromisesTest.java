/** Each promise of the document by hand: ordinary inputs, the edges that it names, wrong inputs. */
public final class PromisesTest {
  private static final Due due = new Due();
  private static final int LEAST = Integer.MIN_VALUE;
  private static final int MOST = Integer.MAX_VALUE;
  private static final String THREE = "train month 3;rider season 0 class 1 warm 4 likes 0 0 9 5;"
      + "rider season 2 class 2 warm 1 likes 9 0 1 0;rider season 3 class 1 likes 3 3 3 3;";
  private static final String LAWS = "train month 2;rider season 1 class 0 warm 1;rider season 1 class 5 warm 3;"
      + "warms : if same > 0 then warmth + month - 1 else heat - class end;may : class < 3 or seat > 0;";
  /** Only who sits in seat 0 gets warmer, and cools down from 4 to 0. */
  private static final String OVEN = "train month 0;rider season 0 class 0 warm 0;rider season 1 class 1 warm 0;"
      + "rider season 2 class 2 warm 0;rider season 3 class 3 warm 0;"
      + "warms : if seat = 0 then if warmth = 4 then 0 else warmth + 1 end else warmth end;";

  public static void main(String[] args) {
    newObject();
    feed();
    train();
    fault();
    riderAndSeat();
    whyAndBy();
    laws();
    stopAndStops();
    giveRugMonth();
    undo();
    judgeAndPerform();
    journey();
    settling();
    soonestAndWay();
    rowsKeepsMostStands();
    placing();
    trading();
    felt();
    attempt();
    forcing();
    chances();
    trays();
    images();
    count();
    due.end();
  }

  private static void newObject() {
    due.promise(1, "a new object");
    SeasonSeat x = new SeasonSeat();
    for (int what = 0; what <= 8; what++) due.is("count(" + what + ")", x.count(what), what == 3 ? -1 : 0);
    due.is("stop(0)", x.stop(0), 4);
    due.is("stops(99)", x.stops(99), 4);
    due.is("count(5)", x.count(5), 100);
    due.is("count(6)", x.count(6), 2);
    due.is("perform", x.perform(0), -6);
    due.fill(x, 0, 0, 25, 1);
    due.is("judge 0", x.judge(0, 0), 2);
    due.is("judge 1", x.judge(0, 1), 1);
    due.is("judge 2", x.judge(0, 2), 0);
    due.is("judge 3", x.judge(0, 3), -1);
    due.is("perform", x.perform(0), 2);
    due.is("count(1)", x.count(1), 5);
    due.is("chance", x.chance(4, 6, 1), 1);
  }

  private static void feed() {
    due.promise(2, "feed");
    SeasonSeat x = new SeasonSeat();
    for (int i = 1; i <= 45; i++) due.is("feed", x.feed(0, -1, LEAST, MOST, i), 20 * i);
    due.is("feed above 900", x.feed(0, 0, 0, 0, 0), -5);
    due.is("count(7)", x.count(7), 900);
    due.is("train(900)", x.train(900), -31);
    due.is("count(7)", x.count(7), 0);
    due.is("feed", x.feed(1, 2, 3, 4, 5), 20);
    StringBuilder long900 = new StringBuilder("train month 7;");
    while (long900.length() < 900) long900.append(long900.length() % 2 == 0 ? ' ' : '\n');
    due.is("a text of 900", due.board(new SeasonSeat(), long900.toString()), 1);
  }

  private static void train() {
    due.promise(3, "train");
    SeasonSeat x = new SeasonSeat();
    due.is("train(0)", x.train(0), -32);
    due.is("train(1)", x.train(1), -3);
    due.is("train(-1)", x.train(-1), -3);
    due.is("train(least)", x.train(LEAST), -3);
    due.is("three riders", due.board(x, THREE), 4);
    x.stop(0);
    x.month(9);
    due.is("count(6)", x.count(6), 2);
    due.is("a fault", due.board(x, "train month 4;rider;"), -32);
    due.is("riders stay", x.count(0), 3);
    due.is("month stays", x.count(1), 9);
    due.is("stops stay", x.count(5), 1);
    due.is("undone stay", x.count(6), 2);
    x.feed(0, 0, 0, 0, 0);
    due.is("above", x.train(21), -3);
    due.is("the tape stays", x.count(7), 20);
    x.train(20);
    due.is("laws", due.board(x, LAWS), 5);
    due.is("stops", x.count(5), 0);
    due.is("undone", x.count(6), 0);
    due.is("the last law", due.board(x, "train month 0;rider season 0 class 0;warms:0;may:1=1;warms:3;may:0=1;rider season 1 class 1;"), 7);
    due.is("later warms", x.by(0, 0), 3);
    due.is("later may", x.why(1), 2);
    due.board(x, "train month 0;rider season 0 class 0 warm 1 likes 1 1 1 1 warm 4 likes 0 7 8 9;");
    due.is("later warm", x.rider(0, 2), 4);
    due.is("later likes", x.rider(0, 10), 0);
    due.is("later likes", x.rider(0, 13), 9);
  }

  private static void fault() {
    due.promise(4, "fault");
    SeasonSeat x = new SeasonSeat();
    due.is("fault(0)", x.fault(0), 0);
    due.is("fault(1)", x.fault(1), -1);
    due.board(x, "train month 1;may : beside = 1;");
    due.is("fault(0)", x.fault(0), 2);
    due.is("fault(1)", x.fault(1), 20);
    due.is("fault(2)", x.fault(2), -1);
    due.is("fault(-1)", x.fault(-1), -1);
    x.train(1);
    due.is("not read", x.fault(1), 20);
    due.board(x, "train month 10 ,");
    due.is("the first", x.fault(0), 3);
    due.board(x, "train month 1 ");
    due.is("the end", x.fault(1), 14);
    due.board(x, "train month 0001;");
    due.is("four digits", x.fault(0), 1);
    due.is("four digits", x.fault(1), 12);
    due.is("six within one another", due.board(x, "train month 1;may : not not not [ [ ( 1 ) = 1 ] ];"), 2);
    due.is("a seventh", due.board(x, "train month 1;may : not not not [ [ ( ( 1 ) ) = 1 ] ];"), -34);
    due.is("its place", x.fault(1), 38);
    due.board(x, "train month 1;");
    due.is("none", x.fault(0), 0);
    due.is("none", x.fault(1), -1);
  }

  private static void riderAndSeat() {
    due.promise(5, "rider");
    SeasonSeat x = due.riding(THREE);
    long[][] all = {{0, 1, 4, 0, 0, 0, 9, 5}, {2, 2, 1, 1, 9, 0, 1, 0}, {3, 1, 2, 2, 3, 3, 3, 3}};
    int[] whats = {0, 1, 2, 3, 10, 11, 12, 13};
    for (int r = 0; r < 3; r++) for (int i = 0; i < 8; i++) due.is("rider " + r, x.rider(r, whats[i]), all[r][i]);
    for (int r : new int[] {-1, 3, LEAST, MOST}) due.is("rider " + r, x.rider(r, 0), -2);
    for (int what : new int[] {-1, 4, 9, 14, LEAST, MOST}) due.is("what " + what, x.rider(0, what), -2);
    due.promise(6, "seat");
    x.stop(1);
    x.stop(2);
    due.is("seat(0)", x.seat(0), 1);
    due.is("seat(1)", x.seat(1), 2);
    due.is("seat(2)", x.seat(2), 0);
    due.is("rider(0, 3)", x.rider(0, 3), 2);
    for (int s : new int[] {-1, 3, LEAST, MOST}) due.is("seat " + s, x.seat(s), -2);
  }

  private static void whyAndBy() {
    due.promise(7, "why");
    SeasonSeat x = due.riding(LAWS);
    due.is("why(0)", x.why(0), 0);
    due.is("why(1)", x.why(1), 2);
    for (int deed : new int[] {-1, 2, 3, 4, 10, 20, 101, LEAST, MOST}) due.is("why " + deed, x.why(deed), 1);
    due.promise(8, "by");
    due.is("by(0, 0)", x.by(0, 0), 2);
    due.is("by(0, 1)", x.by(0, 1), 4);
    due.is("by(1, 0)", x.by(1, 0), -5);
    due.is("by(2, 0)", x.by(2, 0), -5);
    due.is("by(9, 2)", x.by(9, 2), -2);
    due.is("by(20, 0)", x.by(20, 0), -5);
    SeasonSeat y = due.riding(THREE);
    due.is("by(1, 2)", y.by(1, 2), 3);
    due.is("nothing is done", y.rider(0, 2) + y.count(5), 4);
  }

  private static long told(String sum) {
    SeasonSeat x = due.riding("train month 7;rider season 3 class 6 warm 2;rider season 1 class 8 warm 3;"
        + "rider season 3 class 9 warm 4;warms : " + sum + ";");
    return x.by(0, 1) * 100 + x.by(0, 0) * 10 + x.by(0, 2);
  }

  private static void laws() {
    due.promise(8, "the laws");
    due.is("rider", told("rider"), 102);
    due.is("season", told("season"), 133);
    due.is("class", told("class - 5"), 314);
    due.is("warmth", told("warmth - 1"), 213);
    due.is("seat", told("seat + 1"), 213);
    due.is("month", told("month - 4"), 333);
    due.is("beside", told("beside"), 211);
    due.is("heat", told("heat - 2"), 411);
    due.is("same", told("same + 1"), 111);
    due.is("below 0", told("0 - 5"), 0);
    due.is("kept above", told("999 * 999 * 999 - 999 * 999 - 999 - 999"), 111);
    due.is("kept below", told("0 - 999 * 999 * 999 - 999 * 999 + 999 * 999 + 999 + 999 + 3"), 222);
    due.is("kept at 1,000,000", told("(999 * 999 + 999 + 999 + 2) - 999 * 999 - 999 - 999"), 111);
    due.is("kept wide", told("if (999 * 999 * 9) * (999 * 999 * 9) > 999 * 999 then 2 else 3 end"), 222);
    due.is("left to right", told("9 - 5 - 2"), 222);
    due.is("times first", told("1 + 1 * 2"), 333);
    due.is("or behind and", told("if 1 = 1 or 1 = 1 and 1 = 2 then 1 else 2 end"), 111);
    due.is("not of one unit", told("if not 1 = 2 and 1 = 2 then 1 else 2 end"), 222);
    due.is("brackets", told("if [ 1 = 1 or 1 = 1 ] and 1 = 2 then 1 else 2 end"), 222);
    due.is("less, more", told("if 1 < 2 and 2 > 1 and not 2 < 2 and not 2 > 2 then 1 else 2 end"), 111);
    due.is("six deep", told("if 0 = 1 or 0 = 0 and 0 < 1 + 1 * if 0 = 1 or 0 = 0 and 0 < 1 + 1 * if 0 = 1 or 0 = 0 and 0 < 1 + 1 "
        + "* if 0 = 1 or 0 = 0 and 0 < 1 + 1 * if 0 = 1 or 0 = 0 and 0 < 1 + 1 * if 1 = 1 then 1 else 0 end then 1 else 0 end "
        + "then 1 else 0 end then 1 else 0 end then 1 else 0 end then 3 else 4 end"), 333);
    SeasonSeat x = due.riding("train month 0;rider season 0 class 0 warm 1;rider season 1 class 0 warm 4;rider season 1 class 0 warm 0;"
        + "warms : heat - same;may : rider = 0 and seat = 1 or rider = 1 and seat = 0;");
    due.is("the seat to which one would go", x.why(1), 0);
    due.is("not the one where one sits", x.why(2), 2);
    due.is("seats as they are then", x.by(1, 0), 4);
    due.is("warmths as they were", x.by(1, 2), 1);
    due.is("seasons beside", x.by(0, 2), 3);
    due.is("seasons beside", x.by(0, 1), 0);
    SeasonSeat alone = due.riding("train month 0;rider season 0 class 0 warm 3;");
    due.is("alone", alone.by(0, 0), 3);
  }

  private static void stopAndStops() {
    due.promise(9, "stop");
    SeasonSeat x = due.riding(THREE);
    due.is("stop(1)", x.stop(1), 2);
    due.is("seat(0)", x.seat(0), 1);
    due.is("stop(0)", x.stop(0), 2);
    due.is("stop(3)", x.stop(3), -11);
    for (int deed : new int[] {-1, 4, 10, 20, 101, LEAST, MOST}) due.is("stop " + deed, x.stop(deed), -11);
    due.is("count(5)", x.count(5), 2);
    due.is("count(6)", x.count(6), 2);
    SeasonSeat y = due.riding(LAWS);
    due.is("stop(1)", y.stop(1), -12);
    due.is("nothing is done", y.count(5) + y.count(6), 0);
    due.promise(10, "stops");
    SeasonSeat z = due.riding(THREE);
    due.is("stops(2)", z.stops(2), 2);
    due.is("stops(99)", z.stops(99), 2);
    for (int n : new int[] {0, -1, 100, LEAST, MOST}) due.is("stops " + n, z.stops(n), -3);
    due.is("count(5)", z.count(5), 101);
    due.is("count(6)", z.count(6), 2);
  }

  private static void giveRugMonth() {
    due.promise(11, "give");
    SeasonSeat x = due.riding(THREE);
    due.is("give(0, 1)", x.give(0, 1), 2);
    due.is("rider(1, 0)", x.rider(1, 0), 0);
    due.is("give(2, 0)", x.give(2, 0), 2);
    due.is("rider(0, 0)", x.rider(0, 0), 3);
    for (int r : new int[] {-1, 3, LEAST, MOST}) {
      due.is("give", x.give(r, 0), -11);
      due.is("give", x.give(0, r), -11);
    }
    due.is("give(1, 1)", x.give(1, 1), -11);
    due.is("likes stay", x.rider(0, 12), 9);
    due.promise(12, "rug");
    due.is("rug(1)", x.rug(1), 1);
    due.is("rug(1)", x.rug(1), 4);
    due.is("rider(1, 2)", x.rider(1, 2), 4);
    for (int r : new int[] {-1, 3, LEAST, MOST}) due.is("rug " + r, x.rug(r), -11);
    due.promise(13, "month");
    due.is("month(9)", x.month(9), 3);
    due.is("month(0)", x.month(0), 9);
    due.is("count(1)", x.count(1), 0);
    for (int n : new int[] {-1, 10, LEAST, MOST}) due.is("month " + n, x.month(n), -11);
    due.is("count(6)", x.count(6), 6);
    due.is("no stops", x.count(5), 0);
  }

  private static void undo() {
    due.promise(14, "undo");
    SeasonSeat x = due.riding(THREE);
    due.is("undo(1)", x.undo(1), -3);
    x.stop(1);
    x.give(0, 2);
    x.rug(1);
    x.month(8);
    x.stops(3);
    due.is("undo(6)", x.undo(6), -3);
    due.is("undo(0)", x.undo(0), -3);
    due.is("undo(-1)", x.undo(-1), -3);
    due.is("undo(most)", x.undo(MOST), -3);
    due.is("undo(1)", x.undo(1), 4);
    due.is("stops", x.count(5), 1);
    due.is("undo(2)", x.undo(2), 2);
    due.is("month", x.count(1), 3);
    due.is("rug", x.rider(1, 2), 2);
    due.is("undo(2)", x.undo(2), 0);
    due.is("season", x.rider(0, 0), 0);
    due.is("seat", x.seat(0), 0);
    due.is("warmths", x.count(2), 7);
    due.is("stops", x.count(5), 0);
    for (int i = 0; i < 12; i++) x.month(i % 10);
    due.is("ten at most", x.count(6), 10);
    due.is("undo(11)", x.undo(11), -3);
    due.is("undo(10)", x.undo(10), 0);
    due.is("the eldest are forgotten", x.count(1), 1);
    x.stop(9);
    x.rug(7);
    due.fill(x, 0, 9);
    x.perform(0);
    due.is("calls that did none", x.count(6), 0);
  }

  private static void judgeAndPerform() {
    due.promise(15, "judge");
    SeasonSeat x = due.riding(THREE);
    due.is("missing", x.judge(0, 0), -6);
    due.is("what first", x.judge(0, 4), -2);
    due.is("what first", x.judge(0, -1), -2);
    due.is("no tray", x.judge(4, 0), -2);
    due.is("no tray", x.judge(-1, 0), -2);
    due.fill(x, 0, 1, 12, 25, 102, 0, 3, 0);
    due.is("first place", x.judge(0, 0), 5);
    due.is("why", x.judge(0, 1), 1);
    due.is("warmths then", x.judge(0, 2), 9);
    due.is("seat 0 then", x.judge(0, 3), 1);
    due.is("nothing is done", x.count(6) + x.seat(0) + x.count(5), 0);
    due.fill(x, 1, 0, 29, 120);
    due.is("all can be", x.judge(1, 0), -1);
    due.is("why", x.judge(1, 1), 0);
    due.fill(x, 2);
    due.is("none told", x.judge(2, 0), -1);
    due.is("none told", x.judge(2, 2), 7);
    for (long v : new long[] {-1, 4, 9, 13, 30, 99, 100, 111, 103, 130, 200, Long.MAX_VALUE, Long.MIN_VALUE, 1L << 32}) {
      due.fill(x, 3, v);
      due.is("deed " + v, x.judge(3, 0), 0);
      due.is("deed " + v, x.judge(3, 1), 1);
    }
    SeasonSeat y = due.riding(LAWS);
    due.fill(y, 0, 0, 1);
    due.is("why", y.judge(0, 1), 2);
    due.promise(16, "perform");
    due.is("no tray", x.perform(4), -2);
    due.is("no tray", x.perform(-1), -2);
    due.is("missing", new SeasonSeat().perform(3), -6);
    due.is("till one can't be", x.perform(0), 5);
    due.is("month", x.count(1), 5);
    due.is("stops", x.count(5), 2);
    due.is("as a whole", x.count(6), 1);
    due.is("season", x.rider(0, 0), 3);
    due.is("undone", x.undo(1), 0);
    due.is("warmths", x.count(2), 7);
    due.is("none", x.perform(2), 0);
    due.is("none", x.count(6), 0);
  }

  private static void journey() {
    due.promise(17, "journey");
    SeasonSeat x = due.riding(THREE);
    for (int times : new int[] {0, -1, 41, LEAST, MOST}) due.is("times " + times, x.journey(1, times), -3);
    SeasonSeat y = due.riding(THREE);
    int seed = 20261118;
    int done = 0;
    int at = seed;
    int[] draws = new int[200];
    for (int i = 0; i < draws.length; i++) {
      at = 1103515245 * at + 12345;
      draws[i] = at >>> 16;
    }
    int next = 0;
    for (int i = 0; i < 40; i++) {
      int kind = draws[next++] % 6;
      boolean can;
      if (kind < 3) can = y.stop(draws[next++] % 4) >= 0;
      else if (kind == 3) can = y.rug(draws[next++] % 4) >= 0;
      else if (kind == 4) can = y.month(draws[next++] % 10) >= 0;
      else can = y.give(draws[next++] % 4, draws[next++] % 4) >= 0;
      done += can ? 1 : 0;
    }
    due.is("journey", x.journey(seed, 40), done);
    for (int what = 0; what <= 5; what++) due.is("count " + what, x.count(what), y.count(what));
    for (int r = 0; r < 3; r++) for (int what = 0; what < 4; what++) due.is("rider", x.rider(r, what), y.rider(r, what));
    due.is("as a whole", x.count(6), 1);
    due.is("undone", x.undo(1), 0);
    due.is("undone", x.count(5), 0);
  }

  private static void settling() {
    due.promise(18, "lies");
    SeasonSeat x = due.riding(THREE);
    due.is("lies(0, 1)", x.lies(0, 1), 3);
    due.is("lies(2, 99999)", x.lies(2, 99999), 2);
    due.is("lies(3, -1)", x.lies(3, -1), -2);
    due.is("lies(0, -1)", x.lies(0, -1), -3);
    due.is("lies(0, 100000)", x.lies(0, 100000), -3);
    // Two riders as digits of a clock: it comes round only behind 25 stops.
    SeasonSeat clock = due.riding("train month 0;rider season 0 class 0 warm 3;rider season 0 class 0 warm 0;"
        + "warms : if rider = 0 then if warmth = 4 then 0 else warmth + 1 end "
        + "else if heat = 4 then if warmth = 4 then 0 else warmth + 1 end else warmth end end;");
    due.is("lies(1, 2)", clock.lies(1, 2), 1);
    due.is("lies(1, 99999)", clock.lies(1, 99999), (3 + 99999) / 5 % 5);
    due.promise(19, "round");
    due.is("round(0)", clock.round(0), 0);
    due.is("round(1)", clock.round(1), 25);
    due.is("round(0)", x.round(0), 2);
    due.is("round(1)", x.round(1), 1);
    for (int what : new int[] {-1, 2, LEAST, MOST}) due.is("round " + what, x.round(what), -2);
    due.promise(20, "when");
    due.is("when(2)", x.when(2), 2);
    due.is("when(0)", x.when(0), 0);
    due.is("when(3)", x.when(3), -1);
    due.is("when(4)", clock.when(4), 21);
    for (int k : new int[] {-1, 5, LEAST, MOST}) due.is("when " + k, x.when(k), -3);
    due.is("nothing is done", x.count(5) + x.count(6), 0);
  }

  private static void soonestAndWay() {
    due.promise(21, "soonest");
    SeasonSeat x = due.riding(OVEN);
    due.is("soonest(0)", x.soonest(0), 0);
    due.is("soonest(1)", x.soonest(1), 4 + 3);
    for (int k : new int[] {-1, 5, LEAST, MOST}) due.is("soonest " + k, x.soonest(k), -3);
    due.is("can't be", due.riding("train month 0;rider season 0 class 0;warms:0;").soonest(4), -1);
    due.promise(22, "way");
    StringBuilder row = new StringBuilder();
    for (int i = 0; i < 7; i++) row.append(x.way(1, i));
    due.is("the first row", Long.parseLong(row.toString()), firstOvenRow());
    due.is("way(1, 7)", x.way(1, 7), -1);
    due.is("way(0, 0)", x.way(0, 0), -1);
    due.is("way(1, most)", x.way(1, MOST), -1);
    due.is("way(1, -1)", x.way(1, -1), -3);
    due.is("way(5, 0)", x.way(5, 0), -3);
    SeasonSeat y = due.riding("train month 0;rider season 0 class 0 warm 0;rider season 0 class 0 warm 0;"
        + "warms : if rider = seat then warmth else warmth + 1 end;");
    due.is("soonest(2)", y.soonest(2), 2);
    due.is("way(2, 0)", y.way(2, 0), 1);
    due.is("way(2, 1)", y.way(2, 1), 0);
  }

  /** The least of all rows of seven stops that warm all, by trying each; a new object now and then, as 512 calls are one's most. */
  private static long firstOvenRow() {
    SeasonSeat x = null;
    for (int code = 0; code < 1 << 14; code++) {
      if (code % 32 == 0) x = due.riding(OVEN);
      due.fill(x, 0, code >> 12 & 3, code >> 10 & 3, code >> 8 & 3, code >> 6 & 3, code >> 4 & 3, code >> 2 & 3, code & 3);
      x.perform(0);
      boolean warm = x.count(3) >= 1;
      x.undo(1);
      if (warm) return Long.parseLong(Integer.toString(code, 4));
    }
    return -1;
  }

  private static void rowsKeepsMostStands() {
    due.promise(23, "rows");
    SeasonSeat x = due.riding(OVEN);
    due.is("rows(0, 12)", x.rows(0, 12), 16777216L);
    due.is("rows(0, 0)", x.rows(0, 0), 1);
    due.is("rows(1, 0)", x.rows(1, 0), 0);
    due.is("rows(1, 6)", x.rows(1, 6), 0);
    due.is("rows of three", due.riding(THREE).rows(2, 1), 2);
    for (int n : new int[] {-1, 13, LEAST, MOST}) due.is("rows", x.rows(0, n), -3);
    for (int k : new int[] {-1, 5, LEAST, MOST}) due.is("rows", x.rows(k, 0), -3);
    due.promise(24, "keeps");
    due.is("for ever", x.keeps(0), -1);
    due.is("not one", x.keeps(1), 0);
    for (int k : new int[] {-1, 5, LEAST, MOST}) due.is("keeps", x.keeps(k), -3);
    SeasonSeat cooling = due.riding("train month 0;rider season 0 class 0 warm 4;rider season 0 class 0 warm 4;"
        + "warms : if seat = rider then warmth - 1 else warmth end;may : warmth > 2 or seat = rider;");
    due.is("by changes", cooling.keeps(2), -1);
    SeasonSeat cold = due.riding("train month 0;rider season 0 class 0 warm 0;rider season 0 class 0 warm 4;warms : if warmth = 0 then 4 else warmth - 1 end;");
    due.is("now is not looked at", cold.keeps(3), 1);
    due.is("a while", cold.keeps(2), 2);
    due.promise(25, "most");
    due.is("now, too", due.riding("train month 0;rider season 0 class 0 warm 3;warms:0;").most(0), 3);
    due.is("most(3)", x.most(3), 4);
    for (int r : new int[] {-1, 4, LEAST, MOST}) due.is("most", x.most(r), -2);
    due.promise(26, "stands");
    due.is("all", x.stands(), 15000);
    due.is("two", due.riding("train month 0;rider season 0 class 0;rider season 0 class 0;").stands(), 2);
    due.is("alone", due.riding("train month 0;rider season 0 class 0;warms: if warmth = 4 then 0 else warmth + 1 end;").stands(), 5);
    due.is("behind a deed", x.month(1), 0);
    due.is("still all", x.stands(), 15000);
    due.is("nothing is done", x.count(5), 0);
  }

  private static void placing() {
    due.promise(27, "placing");
    SeasonSeat x = due.riding(THREE);
    due.is("placing(1, 0)", x.placing(1, 0), 2);
    due.is("placing(1, 1)", x.placing(1, 1), 8);
    due.is("placing(1, 11)", x.placing(1, 11), 2);
    due.is("placing(20, 0)", x.placing(20, 0), 2);
    for (int what : new int[] {-1, 2, 9, 13, LEAST, MOST}) due.is("what " + what, x.placing(-1, what), -2);
    for (int n : new int[] {-1, 21, LEAST, MOST}) due.is("n " + n, x.placing(n, 0), -3);
    due.is("no riders", new SeasonSeat().placing(0, 1), -1);
    due.is("no riders", new SeasonSeat().placing(21, 1), -3);
    SeasonSeat y = due.riding(OVEN + "warms : if seat = 3 - rider then 4 else seat end;may : 0 = 1;");
    for (int r = 0; r < 4; r++) due.is("seat of " + r, y.placing(1, 10 + r), 3 - r);
    due.is("least", y.placing(1, 0), 4);
    due.is("all", y.placing(1, 1), 16);
    SeasonSeat z = due.riding(OVEN);
    z.stop(3);
    for (int r = 0; r < 4; r++) due.is("the first order", z.placing(0, 10 + r), r);
  }

  private static void trading() {
    due.promise(28, "trades");
    String text = "train month 0;rider season 0 class 0 likes 0 5 9 1;rider season 1 class 0 likes 7 0 0 3;"
        + "rider season 2 class 0 likes 0 9 0 9;rider season 3 class 0 likes 9 9 9 0;";
    SeasonSeat x = due.riding(text);
    long[] tickets = {2, 0, 1, 3};
    long[] times = {0, 0, 0, 1};
    for (int r = 0; r < 4; r++) {
      due.is("ticket", x.trades(r, 0), tickets[r]);
      due.is("time", x.trades(r, 1), times[r]);
    }
    for (int r : new int[] {-1, 4, LEAST, MOST}) due.is("rider " + r, x.trades(r, 0), -2);
    for (int what : new int[] {-1, 2, LEAST, MOST}) due.is("what " + what, x.trades(0, what), -2);
    SeasonSeat chain = due.riding("train month 0;rider season 0 class 0 likes 9 0 0 0;rider season 1 class 0 likes 9 5 0 0;"
        + "rider season 2 class 0 likes 9 8 7 0;rider season 3 class 0 likes 9 8 7 6;");
    for (int r = 0; r < 4; r++) {
      due.is("its own", chain.trades(r, 0), r);
      due.is("one time after the other", chain.trades(r, 1), r);
    }
    SeasonSeat like = due.riding("train month 0;rider season 1 class 0 likes 0 9 9 0;rider season 2 class 0 likes 0 9 0 0;"
        + "rider season 1 class 0 likes 0 0 9 0;");
    due.is("itself first", like.trades(0, 0), 0);
    due.is("then the least that is left", like.trades(1, 0), 2);
    due.is("then the least that is left", like.trades(1, 1), 1);
    due.promise(29, "glad");
    due.is("glad", x.glad(), 3);
    due.is("glad", chain.glad(), 0);
    due.is("glad", like.glad(), 2);
    due.is("none", new SeasonSeat().glad(), 0);
    x.give(0, 2);
    due.is("seasons as they are now", x.trades(0, 0), 0);
  }

  private static void felt() {
    due.promise(30, "seasons");
    SeasonSeat x = due.riding(LAWS);
    due.is("missing", x.seasons(0, 0), -6);
    due.is("no tray", x.seasons(4, 0), -2);
    due.is("no rider", x.seasons(0, 2), -2);
    due.is("no rider", x.seasons(0, -1), -2);
    due.fill(x, 0);
    due.is("none", x.seasons(0, 0), -4);
    due.fill(x, 0, new long[11]);
    due.is("eleven", x.seasons(0, 0), -4);
    due.fill(x, 0, 1, 5);
    due.is("five", x.seasons(0, 0), -3);
    due.fill(x, 0, -1);
    due.is("below", x.seasons(0, 0), -3);
    due.fill(x, 0, 2, 3, 4, 4, 4, 4, 4, 4, 4, 4);
    due.is("its own", x.seasons(0, 0), 2);
    due.fill(x, 0, 3);
    due.is("others", x.seasons(0, 0), 13);
    due.fill(x, 0, 0);
    due.is("none", x.seasons(0, 0), 0);
    due.promise(31, "months");
    due.is("missing", x.months(1, 0), -6);
    due.is("no tray", x.months(-1, 0), -2);
    due.is("no rider", x.months(0, 9), -2);
    due.is("month 0", x.months(0, 0), 1);
    due.fill(x, 0, 4, 4);
    due.is("months 4 to 9", x.months(0, 0), 1008);
    due.fill(x, 0, 7);
    due.is("seven", x.months(0, 0), -3);
    due.fill(x, 0);
    due.is("none", x.months(0, 0), -4);
    due.is("all stays", x.count(1) * 10 + x.rider(0, 0), 21);
  }

  private static void attempt() {
    due.promise(32, "attempt");
    SeasonSeat x = due.riding("train month 0;rider season 0 class 0 warm 2;rider season 1 class 0 warm 2;rider season 2 class 0 warm 2;"
        + "warms : if seat = 2 and rider = 0 then season else if seat = 1 and rider = 0 then 2 + season * 0 else 2 end end;");
    due.fill(x, 0, 2);
    due.is("seasons", x.seasons(0, 0), 15);
    due.is("none tells more", x.attempt(0, 0), 0);
    x.stop(1);
    due.is("to seat 2", x.attempt(0, 0), 2);
    due.is("nothing is done", x.count(5), 1);
    SeasonSeat y = due.riding("train month 0;rider season 0 class 0 warm 2;rider season 1 class 0 warm 2;"
        + "warms : if seat = rider then 2 else 3 end;may : rider = 1 or season < 2;");
    due.fill(y, 0, 2);
    due.is("what can't be is as now", y.attempt(0, 0), 1);
    due.fill(y, 0, 0);
    due.is("no season", y.attempt(0, 0), -1);
    due.is("missing", y.attempt(1, 0), -6);
    due.is("no rider", y.attempt(1, 2), -2);
    due.is("no tray", y.attempt(9, 0), -2);
    due.fill(y, 0);
    due.is("none", y.attempt(0, 0), -4);
    due.fill(y, 0, 8);
    due.is("eight", y.attempt(0, 0), -3);
  }

  private static void forcing() {
    due.promise(33, "forces");
    SeasonSeat x = due.riding(THREE);
    due.is("forces(1, 2)", x.forces(1, 2), 1);
    due.is("it has that", x.forces(0, 4), 0);
    due.is("never", x.forces(1, 4), -1);
    due.is("no rider first", x.forces(3, 5), -2);
    due.is("no rider", x.forces(-1, 0), -2);
    due.is("k", x.forces(0, 5), -3);
    due.is("k", x.forces(0, -1), -3);
    SeasonSeat y = due.riding(LAWS);
    due.is("by nothing", y.forces(0, 4), 3);
    SeasonSeat oven = due.riding(OVEN);
    due.is("the other one drives it off each time", oven.forces(1, 4), 7);
    due.is("the other one keeps it off", oven.forces(3, 1), -1);
    due.is("once", oven.forces(1, 1), 1);
    due.is("four", oven.forces(0, 4), 7);
    SeasonSeat back = due.riding("train month 0;rider season 0 class 0 warm 0;rider season 0 class 0 warm 0;"
        + "warms : if seat = rider then 0 else warmth + 1 end;");
    due.is("behind the first stop", back.forces(0, 1), 1);
    due.is("the other one brings it back to now", back.forces(0, 2), -1);
    due.promise(34, "best");
    due.is("best(1, 2)", x.best(1, 2), 0);
    due.is("best(2, 3)", x.best(2, 3), 1);
    due.is("it has that", x.best(0, 4), -1);
    due.is("never", x.best(1, 4), -1);
    due.is("no rider first", x.best(3, 5), -2);
    due.is("k", x.best(0, 5), -3);
    due.is("to the oven", oven.best(1, 1), 1);
    due.is("stay", oven.best(0, 4), 0);
    due.is("nothing is done", oven.count(5), 0);
  }

  private static void chances() {
    due.promise(35, "chance");
    SeasonSeat x = due.riding(THREE);
    due.is("above", x.chance(1, 1, 0), 9);
    due.is("below", x.chance(1, 1, 1), 10);
    due.is("none", x.chance(4, 1, 0), 0);
    due.is("none", x.chance(4, 1, 1), 1);
    due.is("now", x.chance(1, 0, 0), 1);
    due.is("all", x.chance(0, 6, 1), 1);
    due.is("what first", x.chance(9, 9, 2), -2);
    due.is("what", x.chance(0, 0, -1), -2);
    for (int n : new int[] {-1, 7, LEAST, MOST}) due.is("n", x.chance(0, n, 0), -3);
    for (int k : new int[] {-1, 5, LEAST, MOST}) due.is("k", x.chance(k, 0, 0), -3);
    SeasonSeat still = due.riding("train month 0;rider season 0 class 0 warm 4;warms : warmth;");
    // Of six lots at most two are its own: (9^6 + 6 9^5 + 15 9^4) / 10^6 = 984150 / 1000000.
    due.is("above", still.chance(2, 6, 0), 19683);
    due.is("below", still.chance(2, 6, 1), 20000);
    due.promise(36, "mean");
    due.is("above", x.mean(1, 0), 57);
    due.is("below", x.mean(1, 1), 10);
    due.is("now", x.mean(0, 0), 7);
    due.is("now", x.mean(0, 1), 1);
    // One less in ten, five times, but never below 0, as it would be in one case of 100,000.
    due.is("above", still.mean(5, 0), 350001);
    due.is("below", still.mean(5, 1), 100000);
    due.is("what first", x.mean(9, 2), -2);
    for (int n : new int[] {-1, 7, LEAST, MOST}) due.is("n", x.mean(n, 0), -3);
  }

  private static void trays() {
    due.promise(37, "numbers");
    SeasonSeat x = due.riding(THREE);
    due.is("numbers", x.numbers(3, 0, 40), 0);
    due.is("write", x.write(3, 39, 7), 7);
    for (int tray : new int[] {-1, 4, LEAST, MOST}) due.is("tray", x.numbers(tray, 0, 99), -2);
    for (int sort : new int[] {-1, 4, LEAST, MOST}) due.is("sort", x.numbers(3, sort, 99), -2);
    for (int n : new int[] {-1, 41, LEAST, MOST}) due.is("n", x.numbers(3, 0, n), -3);
    due.is("the tray stays", x.write(3, 39, 8), 8);
    due.is("in place of it", x.numbers(3, 1, 1), 0);
    due.fill(x, 3, 0);
    due.is("all 0", x.judge(3, 0), -1);
    due.promise(38, "write");
    long[] cut = {-56, 200, 70000 & 0xffff, 1 << 31, Long.MIN_VALUE};
    x.numbers(0, 0, 1);
    due.is("8 bits", x.write(0, 0, 200), cut[0]);
    due.is("8 bits", x.write(0, 0, 256 + 5), 5);
    x.numbers(0, 1, 1);
    due.is("16 bits", x.write(0, 0, 200), cut[1]);
    due.is("16 bits", x.write(0, 0, 70000), cut[2]);
    due.is("16 bits", x.write(0, 0, 32768), -32768);
    x.numbers(0, 2, 1);
    due.is("32 bits", x.write(0, 0, 1L << 31), cut[3]);
    x.numbers(0, 3, 1);
    due.is("64 bits", x.write(0, 0, Long.MIN_VALUE), cut[4]);
    due.is("no place", x.write(0, 1, 0), -7);
    due.is("no place", x.write(0, -1, 0), -7);
    due.is("missing", x.write(1, -1, 0), -6);
    due.is("no tray", x.write(4, 0, 0), -2);
    due.is("no tray", x.write(-1, 0, 0), -2);
    due.promise(39, "lists");
    x.numbers(0, 0, 3);
    due.is("lists", x.lists(0, 0), 3);
    due.is("as deeds", x.judge(0, 0), 0);
    x.numbers(1, 3, 2);
    due.is("lists", x.lists(1, 1), 2);
    due.is("felt", x.seasons(1, 1), 15);
    x.numbers(1, 3, 0);
    due.is("no places", x.lists(1, 0), 0);
    due.is("missing", x.lists(2, 0), -6);
    due.is("no rider", x.lists(2, 3), -2);
    due.is("no tray", x.lists(4, 0), -2);
    SeasonSeat y = due.riding(LAWS);
    y.numbers(0, 0, 2);
    y.lists(0, 0);
    due.is("behind 1, 2 stops", y.months(0, 0), 4);
  }

  private static void images() {
    due.promise(40, "image");
    SeasonSeat x = due.riding(THREE);
    due.promise(41, "restore");
    due.is("none was made", x.restore(0), -5);
    due.promise(40, "image");
    x.stop(1);
    x.give(0, 1);
    due.is("image(0)", x.image(0), 0);
    due.is("calls can still be undone", x.count(6), 2);
    for (int i : new int[] {-1, 2, LEAST, MOST}) {
      due.is("image", x.image(i), -2);
      due.is("restore", x.restore(i), -2);
    }
    due.promise(41, "restore");
    x.undo(2);
    due.board(x, LAWS);
    x.month(7);
    x.feed(1, 2, 3, 4, 5);
    due.is("image(1)", x.image(1), 0);
    due.is("restore(0)", x.restore(0), 0);
    due.is("riders", x.count(0), 3);
    due.is("month", x.count(1), 3);
    due.is("seat", x.seat(0), 1);
    due.is("season", x.rider(0, 0), 2);
    due.is("class", x.rider(1, 1), 2);
    due.is("likes", x.rider(1, 10), 9);
    due.is("warmths", x.count(2), 8);
    due.is("stops", x.count(5), 1);
    due.is("undone", x.count(6), 0);
    due.is("lines", x.count(8), 4);
    due.is("no law", x.why(1), 0);
    due.is("the tape is no part of it", x.count(7), 20);
    x.stops(9);
    due.is("again", x.restore(0), 0);
    due.is("stops", x.count(5), 1);
    due.is("restore(1)", x.restore(1), 0);
    due.is("month", x.count(1), 7);
    due.is("law", x.why(1), 2);
    SeasonSeat y = new SeasonSeat();
    y.image(1);
    due.board(y, THREE);
    due.is("restore", y.restore(1), 0);
    due.is("no riders", y.count(0), 0);
    due.is("no lines", y.count(8), 0);
  }

  private static void count() {
    due.promise(42, "count");
    SeasonSeat x = due.riding(THREE);
    x.stop(2);
    x.feed(0, 0, 0, 0, 0);
    long[] all = {3, 3, 8, 2, 6, 1, 1, 20, 4};
    for (int what = 0; what <= 8; what++) due.is("count " + what, x.count(what), all[what]);
    for (int what : new int[] {-1, 9, LEAST, MOST}) due.is("count " + what, x.count(what), -1);
    due.is("NONE", SeasonSeat.NONE, -1);
  }
}
