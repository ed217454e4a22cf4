/** The document's sentences on riders, laws, stops and deeds (promises 5 to 17), each held on both sides of its bound. */
public final class DeedBoundsTest {
  private static final Due due = new Due();
  private static final int LEAST = Integer.MIN_VALUE;
  private static final int MOST = Integer.MAX_VALUE;
  /** 999,999 and 1,000,000, and what brings 1,000,000 down to 2 and -1,000,000 up to 2. */
  private static final String NEARLY = "999 * 999 + 999 + 999";
  private static final String MILLION = "( 999 + 1 ) * ( 999 + 1 )";
  private static final String DOWN = " - 999 * 999 - 999 - 998";
  private static final String UP = " + 999 * 999 + 999 + 999 + 3";

  public static void main(String[] args) {
    riderAsked();
    seatAsked();
    warmthKept();
    besideCounts();
    besideElsewhere();
    withoutWarms();
    allAtOnce();
    changesBySeats();
    mayForBoth();
    seatInMay();
    namesOfLaws();
    sumsKept();
    ifTells();
    whyAsked();
    byAsked();
    stopAnswers();
    stopsBounds();
    giveBounds();
    rugBounds();
    monthBounds();
    undoBounds();
    undoneAsAWhole();
    undoneTen();
    undoneAgain();
    undoneEach();
    whichDeeds();
    judgeBounds();
    judgeThen();
    performBounds();
    journeyBounds();
    journeyDraws();
    due.end();
  }

  /** So many riders, rider r of season r and class r, warm 2, with laws behind them. */
  private static String riders(int n, String laws) {
    StringBuilder text = new StringBuilder("train month 5;");
    for (int r = 0; r < n; r++) text.append("rider season ").append(r).append(" class ").append(r).append(';');
    return text + laws;
  }

  /** Riders of these warmths, with laws behind them. */
  private static SeasonSeat warmed(String laws, int... warmths) {
    StringBuilder text = new StringBuilder("train month 5;");
    for (int r = 0; r < warmths.length; r++) text.append("rider season ").append(r).append(" class 0 warm ").append(warmths[r]).append(';');
    return due.riding(text + laws);
  }

  /** What a sum tells for a rider that is alone. */
  private static int told(String sum) {
    SeasonSeat x = due.riding("train month 3;rider season 1 class 5 warm 2;warms : " + sum + ";");
    due.is(sum + " | lines", x.count(8), 3);
    return x.by(0, 0);
  }

  private static void riderAsked() {
    due.says("rider", "what 0: SEASON, 1: class, 2: WARMTH, 3: SEAT, 10 to 13: how much it likes. -2");
    SeasonSeat x = due.riding("train month 0;rider season 3 class 9 warm 4 likes 5 6 7 8;rider season 1 class 7 warm 0 likes 1 2 3 4;");
    long[][] all = {{3, 9, 4, 0, 5, 6, 7, 8}, {1, 7, 0, 1, 1, 2, 3, 4}};
    int[] whats = {0, 1, 2, 3, 10, 11, 12, 13};
    for (int r = 0; r < 2; r++) for (int i = 0; i < 8; i++) due.is("rider(" + r + ", " + whats[i] + ")", x.rider(r, whats[i]), all[r][i]);
    for (int what : new int[] {-1, 4, 5, 9, 14, 20, LEAST, MOST}) due.is("what " + what, x.rider(0, what), -2);
    for (int r : new int[] {-1, 2, 3, 4, LEAST, MOST}) {
      due.is("rider " + r, x.rider(r, 0), -2);
      due.is("rider " + r, x.rider(r, 13), -2);
      due.is("rider " + r, x.rider(r, 99), -2);
    }
    due.is("without riders", new SeasonSeat().rider(0, 0), -2);
  }

  private static void seatAsked() {
    due.says("seat", "Who sits in a SEAT. -2");
    for (int n = 0; n <= 4; n++) {
      SeasonSeat x = due.riding(riders(n, ""));
      for (int s : new int[] {-1, 0, 1, 2, 3, 4, LEAST, MOST}) due.is(n + " riders, seat " + s, x.seat(s), s >= 0 && s < n ? s : -2);
    }
    SeasonSeat x = due.riding(riders(4, ""));
    x.stop(3);
    x.stop(2);
    long[] sit = {0, 3, 1, 2};
    for (int s = 0; s < 4; s++) due.is("seat " + s, x.seat(s), sit[s]);
    for (int s = 0; s < 4; s++) due.is("the seat of who sits there", x.rider((int) sit[s], 3), s);
  }

  private static void warmthKept() {
    due.says("2.", "the WARMTH of each is what the law warms tells, 0 at least, 4 at most");
    String[] sums = {"0 - 999 * 999", "0 - 2", "0 - 1", "0", "1", "2", "3", "4", "5", "6", "999"};
    long[] warm = {0, 0, 0, 0, 1, 2, 3, 4, 4, 4, 4};
    for (int i = 0; i < sums.length; i++) due.is(sums[i], told(sums[i]), warm[i]);
  }

  private static void besideCounts() {
    due.says("2.", "BESIDE it sit those in the SEATS next to its own (one or two, none if it is alone)");
    for (int n = 1; n <= 4; n++) {
      SeasonSeat x = due.riding(riders(n, "warms : beside;"));
      for (int r = 0; r < n; r++) due.is(n + " riders, beside " + r, x.by(0, r), n == 1 ? 0 : r == 0 || r == n - 1 ? 1 : 2);
    }
    due.says("laws", "heat: all their WARMTHS together, same: how many of them have its SEASON");
    due.is("alone: heat", due.riding(riders(1, "warms : heat;")).by(0, 0), 0);
    due.is("alone: same", due.riding(riders(1, "warms : same;")).by(0, 0), 0);
    SeasonSeat heat = warmed("warms : heat;", 1, 0, 2, 3);
    long[] heats = {0, 3, 3, 2};
    for (int r = 0; r < 4; r++) due.is("heat of " + r, heat.by(0, r), heats[r]);
    SeasonSeat most = warmed("warms : heat - 4;", 4, 4, 4);
    due.is("the most heat", most.by(0, 1), 4);
    due.is("one beside", most.by(0, 0), 0);
    SeasonSeat same = due.riding("train month 0;rider season 2 class 0;rider season 2 class 0;rider season 2 class 0;rider season 1 class 0;warms : same;");
    long[] sames = {1, 2, 1, 0};
    for (int r = 0; r < 4; r++) due.is("same of " + r, same.by(0, r), sames[r]);
    due.is("seats as they are then", same.by(3, 3), 0);
    due.is("seats as they are then", same.by(3, 1), 1);
  }

  /** The most heat and the most of its season in one seat, then none of either in the next seat, all else being like. */
  private static void besideElsewhere() {
    due.says("laws", "heat: all their WARMTHS together, same: how many of them have its SEASON");
    SeasonSeat x = due.riding("train month 0;rider season 1 class 0 warm 0;rider season 0 class 0 warm 4;rider season 0 class 0 warm 2;"
        + "rider season 0 class 0 warm 4;warms : if same = 2 and heat = 8 then warmth + 1 else warmth end;");
    due.is("two of its season, both warm", x.by(0, 2), 3);
    due.is("stop(3)", x.stop(3), 0);
    due.is("stop(1)", x.stop(1), 0);
    due.is("stop(2)", x.stop(2), 0);
    due.is("the cold one", x.seat(2), 0);
    due.is("beside it", x.rider(2, 3), 3);
    due.is("none of its season, cold", x.rider(2, 2), 2);
    due.is("none of its season, cold", x.by(0, 2), 2);
  }

  private static void withoutWarms() {
    due.says("2.", "without one: 1 more, if the WARMTHS of those BESIDE it are more than its own times how many these are, 1 less, if less, else as it was");
    for (int w = 0; w <= 4; w++) due.is("alone", warmed("", w).by(0, 0), w);
    for (int a = 0; a <= 4; a++) {
      for (int b = 0; b <= 4; b++) {
        SeasonSeat x = warmed("", a, b);
        due.is(a + " beside " + b, x.by(0, 0), a + Integer.compare(b, a));
        due.is(b + " beside " + a, x.by(0, 1), b + Integer.compare(a, b));
        for (int c = 0; c <= 4; c++) due.is(a + " " + b + " " + c, warmed("", a, b, c).by(0, 1), b + Integer.compare(a + c, 2 * b));
      }
    }
  }

  private static void allAtOnce() {
    due.says("2.", "all at once, as all was ahead of the STOP, but SEATS as they are then");
    SeasonSeat x = warmed("warms : heat;", 1, 2, 0);
    x.stop(0);
    long[] warm = {2, 1, 2};
    for (int r = 0; r < 3; r++) due.is("warmth of " + r, x.rider(r, 2), warm[r]);
    SeasonSeat y = warmed("warms : heat;", 1, 2, 0);
    y.stop(1);
    // Rider 1 sits in seat 0 then, rider 0 in seat 1, rider 2 in seat 2.
    long[] then = {2, 1, 1};
    for (int r = 0; r < 3; r++) due.is("warmth of " + r, y.rider(r, 2), then[r]);
  }

  private static void changesBySeats() {
    due.says("DEEDS", "1, 2, 3: a STOP at which SEATS v - 1 and v CHANGE; 1 no such SEATS");
    for (int n = 0; n <= 4; n++) {
      for (int deed = 0; deed <= 3; deed++) {
        SeasonSeat x = due.riding(riders(n, ""));
        boolean can = deed == 0 || deed < n;
        due.is(n + " riders, why " + deed, x.why(deed), can ? 0 : 1);
        due.is(n + " riders, stop " + deed, x.stop(deed), !can ? -11 : n == 0 ? 4 : 2);
        for (int s = 0; s < n; s++) {
          int sits = can && s == deed - 1 ? deed : can && deed > 0 && s == deed ? deed - 1 : s;
          due.is(n + " riders, behind stop " + deed + " in seat " + s, x.seat(s), sits);
        }
        due.is("stops", x.count(5), can ? 1 : 0);
        due.is("undone", x.count(6), can ? 1 : 0);
      }
    }
  }

  private static void mayForBoth() {
    due.says("2.", "if for each of the two the law may holds (without one: always)");
    due.is("without one", due.riding(riders(2, "")).why(1), 0);
    due.is("both", due.riding(riders(2, "may : rider < 2;")).why(1), 0);
    due.is("the left one alone", due.riding(riders(2, "may : rider = 0;")).why(1), 2);
    due.is("the right one alone", due.riding(riders(2, "may : rider = 1;")).why(1), 2);
    due.is("neither", due.riding(riders(2, "may : rider = 2;")).why(1), 2);
    due.is("others don't count", due.riding(riders(3, "may : rider < 2;")).why(1), 0);
    due.is("others don't count", due.riding(riders(3, "may : rider > 0;")).why(2), 0);
    SeasonSeat never = due.riding(riders(2, "may : 0 = 1;"));
    due.is("nothing is done", never.why(0), 0);
    due.is("stop(1)", never.stop(1), -12);
    due.is("stop(2)", never.stop(2), -11);
    due.is("stop(0)", never.stop(0), 2);
    due.is("no riders", due.riding("train month 0;may : 0 = 1;").why(0), 0);
    due.is("no riders", due.riding("train month 0;may : 0 = 1;").why(1), 1);
  }

  private static void seatInMay() {
    due.says("laws", "seat: the number of its SEAT (in may: of the one to which it would go)");
    due.is("to where they go", due.riding(riders(2, "may : seat = 1 - rider;")).why(1), 0);
    due.is("not where they sit", due.riding(riders(2, "may : seat = rider;")).why(1), 2);
    SeasonSeat x = due.riding(riders(4, "may : seat = 3 or rider = 3;"));
    due.is("to seats 3 and 2", x.why(3), 0);
    due.is("to seats 2 and 1", x.why(2), 2);
    x.stop(3);
    due.is("rider 3 sits in 2, rider 1 would go there", x.why(2), 2);
    due.is("rider 2 would go to 2", x.why(3), 2);
    SeasonSeat warms = due.riding(riders(3, "warms : seat;"));
    for (int r = 0; r < 3; r++) due.is("in warms where it sits then", warms.by(2, r), r == 0 ? 0 : 3 - r);
  }

  private static void namesOfLaws() {
    due.says("laws", "rider, season, class, warmth: of the RIDER; month: the MONTH");
    String head = "train month 4;rider season 2 class 3 warm 1;rider season 1 class 0 warm 0;rider season 0 class 4 warm 3;warms : ";
    String[] names = {"rider", "season", "class", "warmth", "seat", "month"};
    long[][] tell = {{0, 1, 2}, {2, 1, 0}, {3, 0, 4}, {1, 0, 3}, {0, 1, 2}, {4, 4, 4}};
    for (int i = 0; i < names.length; i++) {
      SeasonSeat x = due.riding(head + names[i] + ";");
      for (int r = 0; r < 3; r++) due.is(names[i] + " of " + r, x.by(0, r), tell[i][r]);
    }
    String[] holds = {"rider < 2", "season > 0", "class < 4", "warmth < 2", "seat < 2", "month = 4"};
    for (String law : holds) {
      SeasonSeat x = due.riding(head + "warmth;may : " + law + ";");
      due.is(law, x.why(1), 0);
      due.is(law, x.why(2), law.equals("month = 4") ? 0 : 2);
    }
    SeasonSeat x = due.riding(head + "season + month;may : month = 9 and season = 2 - rider;");
    due.is("another month", x.why(1), 2);
    x.month(9);
    due.is("another month", x.why(1), 0);
    x.give(0, 1);
    due.is("another season", x.why(1), 2);
    x.month(0);
    due.is("another month and season", x.by(0, 0), 1);
    SeasonSeat y = due.riding(head + "warmth;");
    y.rug(1);
    due.is("behind a rug", y.by(0, 1), 4);
  }

  private static void sumsKept() {
    due.says("laws", "Each + - * is kept from -1,000,000 to 1,000,000");
    due.is("+ to 999,999", told(NEARLY + DOWN), 1);
    due.is("+ to 1,000,000", told(NEARLY + " + 1" + DOWN), 2);
    due.is("+ to 1,000,001", told(NEARLY + " + 2" + DOWN), 2);
    due.is("+ far above", told(MILLION + " + " + MILLION + DOWN), 2);
    due.is("- to -999,999", told("0 - 999 * 999 - 999 - 999" + UP), 3);
    due.is("- to -1,000,000", told("0 - 999 * 999 - 999 - 999 - 1" + UP), 2);
    due.is("- to -1,000,001", told("0 - 999 * 999 - 999 - 999 - 2" + UP), 2);
    due.is("- far below", told("0 - " + MILLION + " - " + MILLION + UP), 2);
    due.is("- above", told("1 - ( 0 - " + MILLION + " )" + DOWN), 2);
    due.is("+ below", told("( 0 - " + MILLION + " ) + ( 0 - 1 )" + UP), 2);
    due.is("* to 1,000,000", told(MILLION + DOWN), 2);
    due.is("* to 1,001,000", told("( 999 + 1 ) * ( 999 + 2 )" + DOWN), 2);
    due.is("* to -1,000,000", told("( 0 - 999 - 1 ) * ( 999 + 1 )" + UP), 2);
    due.is("* to -1,001,000", told("( 0 - 999 - 1 ) * ( 999 + 2 )" + UP), 2);
    due.is("* of two below", told("( 0 - 999 - 1 ) * ( 0 - 999 - 2 )" + DOWN), 2);
    due.is("* beyond 32 bits", told(MILLION + " * " + "( " + MILLION + " )" + DOWN), 2);
    due.is("* beyond 32 bits, below", told("( 0 - " + MILLION + " ) * ( " + MILLION + " )" + UP), 2);
    due.is("each, not the last alone", told("999 * 999 * 999 - 999 * 999 - 999 - 999"), 1);
    due.is("in may, too", due.riding(riders(2, "may : " + MILLION + " + 1 = " + MILLION + ";")).why(1), 0);
    due.is("in may, too", due.riding(riders(2, "may : 0 - " + MILLION + " - 1 < 0 - " + MILLION + ";")).why(1), 2);
  }

  private static void ifTells() {
    due.says("laws", "if tells the one SUM, if the TRUTH holds, else the other one");
    String[] truths = {"1 = 1", "1 = 2", "1 < 2", "2 < 2", "3 < 2", "2 > 1", "2 > 2", "1 > 2", "not 1 = 1", "not not 1 = 1",
        "1 = 1 and 1 = 1", "1 = 1 and 1 = 2", "1 = 2 and 1 = 1", "1 = 1 or 1 = 2", "1 = 2 or 1 = 1", "1 = 2 or 1 = 2",
        "1 = 1 or 1 = 1 and 1 = 2", "[ 1 = 1 or 1 = 1 ] and 1 = 2", "not 1 = 2 and 1 = 2", "not [ 1 = 2 and 1 = 2 ]",
        "not 1 = 1 or 1 = 1", "not [ 1 = 1 or 1 = 1 ]"};
    boolean[] hold = {true, false, true, false, false, true, false, false, false, true, true, false, false, true, true, false,
        true, false, false, true, true, false};
    for (int i = 0; i < truths.length; i++) {
      due.is(truths[i], told("if " + truths[i] + " then 3 else 1 end"), hold[i] ? 3 : 1);
      due.is(truths[i], due.riding(riders(2, "may : " + truths[i] + ";")).why(1), hold[i] ? 0 : 2);
    }
    due.is("within sums", told("2 * if 1 = 1 then 1 else 2 end + 1"), 3);
    due.is("or within sums", told("0 + 1 * if 1 = 2 or 1 = 1 then 3 else 2 end"), 3);
    due.is("or within sums", told("1 + 1 * if 1 = 1 or 1 = 2 then 1 else 2 end"), 2);
    due.is("and within sums", told("1 + 1 * if 1 = 1 and 1 = 2 then 1 else 2 end"), 3);
    due.is("- from the left", told("9 - 4 - 3"), 2);
    due.is("* ahead of +", told("1 + 1 * 2"), 3);
    due.is("* ahead of -", told("9 - 2 * 3"), 3);
    due.is("( ahead of *", told("( 1 + 0 ) * ( 1 + 1 )"), 2);
  }

  private static void whyAsked() {
    due.says("why", "Why a STOP (0 to 3) can't be (0: it can; 1 for other numbers, too)");
    SeasonSeat x = due.riding(riders(4, "may : rider < 3;"));
    long[] whys = {0, 0, 0, 2};
    for (int deed = 0; deed <= 3; deed++) due.is("why " + deed, x.why(deed), whys[deed]);
    for (int deed : new int[] {-1, 4, 5, 9, 10, 13, 19, 20, 29, 100, 101, 199, 200, 256, LEAST, MOST}) {
      due.is("why " + deed, x.why(deed), 1);
      due.is("stop " + deed, x.stop(deed), -11);
      due.is("by " + deed, x.by(deed, 0), -5);
    }
  }

  private static void byAsked() {
    due.says("by", "-2: the RIDER; -5: the STOP can't be");
    SeasonSeat x = due.riding(riders(3, "warms : seat + 1;may : rider < 2;"));
    due.is("by(0, 2)", x.by(0, 2), 3);
    due.is("by(1, 0)", x.by(1, 0), 2);
    due.is("by the law", x.by(2, 0), -5);
    due.is("no such seats", x.by(3, 0), -5);
    for (int r : new int[] {-1, 3, LEAST, MOST}) {
      due.is("rider " + r, x.by(0, r), -2);
      due.is("the rider first", x.by(2, r), -2);
      due.is("the rider first", x.by(9, r), -2);
    }
    due.is("without riders", new SeasonSeat().by(9, 0), -2);
    due.is("nothing is done", x.count(5) + x.count(6) + x.seat(0), 0);
  }

  private static void stopAnswers() {
    due.says("stop", "the least WARMTH then (4 without RIDERS)");
    due.is("least of three", warmed("warms : warmth;", 4, 1, 3).stop(0), 1);
    due.is("least of three", warmed("warms : warmth;", 0, 4, 4).stop(1), 0);
    due.is("least, the last one", warmed("warms : warmth;", 4, 4, 4, 3).stop(3), 3);
    due.is("then, not now", warmed("warms : warmth + 1;", 2, 0).stop(0), 1);
    due.is("all at 4", warmed("warms : 4;", 0).stop(0), 4);
    due.is("without riders", new SeasonSeat().stop(0), 4);
    due.is("without riders", new SeasonSeat().stop(1), -11);
  }

  private static void stopsBounds() {
    due.says("stops", "n STOPS (1 to 99): the least WARMTH then (4 without RIDERS). -3");
    String clock = "warms : if warmth = 4 then 0 else warmth + 1 end;";
    due.is("stops(1)", warmed(clock, 0).stops(1), 1);
    due.is("stops(98)", warmed(clock, 0).stops(98), 3);
    SeasonSeat x = warmed(clock, 0);
    due.is("stops(99)", x.stops(99), 4);
    due.is("count(5)", x.count(5), 99);
    for (int n : new int[] {0, -1, 100, LEAST, MOST}) due.is("stops " + n, x.stops(n), -3);
    due.is("count(5)", x.count(5), 99);
    due.is("as a whole", x.count(6), 1);
    due.is("seats stay", warmed(clock, 0, 1).stops(99), 0);
    due.is("without riders", new SeasonSeat().stops(99), 4);
    due.is("without riders", new SeasonSeat().stops(100), -3);
  }

  private static void giveBounds() {
    due.says("give", "the SEASON of the first one then. -11");
    SeasonSeat x = due.riding(riders(3, ""));
    due.is("give(0, 2)", x.give(0, 2), 2);
    due.is("the first", x.rider(0, 0), 2);
    due.is("the other", x.rider(2, 0), 0);
    due.is("give(2, 1)", x.give(2, 1), 1);
    due.is("seats don't count", due.riding(riders(4, "")).give(3, 0), 0);
    due.says("Why not", "1 no such RIDERS (both one)");
    for (int r = 0; r < 3; r++) due.is("both one", x.give(r, r), -11);
    for (int r : new int[] {-1, 3, 4, 9, 10, LEAST, MOST}) {
      due.is("first " + r, x.give(r, 0), -11);
      due.is("other " + r, x.give(0, r), -11);
      due.is("both " + r, x.give(r, r), -11);
    }
    due.is("alone", due.riding(riders(1, "")).give(0, 0), -11);
    due.is("without riders", new SeasonSeat().give(0, 1), -11);
    due.is("undone", x.count(6), 2);
    SeasonSeat like = due.riding("train month 0;rider season 1 class 0;rider season 1 class 0;");
    due.is("of one season", like.give(0, 1), 1);
    due.is("it was done", like.count(6), 1);
  }

  private static void rugBounds() {
    due.says("rug", "the WARMTH it had. -11");
    for (int w = 0; w <= 4; w++) {
      SeasonSeat x = warmed("", 1, w, 3);
      due.is("rug(1)", x.rug(1), w);
      due.is("a RUG: a WARMTH of 4", x.rider(1, 2), 4);
      due.is("others stay", x.rider(0, 2) * 10 + x.rider(2, 2), 13);
      due.is("undone", x.count(6), 1);
      due.is("no stop", x.count(5), 0);
    }
    SeasonSeat x = due.riding(riders(3, ""));
    for (int r : new int[] {-1, 3, 4, 10, LEAST, MOST}) due.is("rug " + r, x.rug(r), -11);
    due.is("last rider", x.rug(2), 2);
    due.is("without riders", new SeasonSeat().rug(0), -11);
  }

  private static void monthBounds() {
    due.says("month", "Another MONTH (0 to 9): what it was. -11");
    SeasonSeat x = new SeasonSeat();
    int was = 0;
    for (int n : new int[] {9, 0, 5, 5}) {
      due.is("month " + n, x.month(n), was);
      was = n;
    }
    for (int n : new int[] {-1, 10, 20, LEAST, MOST}) due.is("month " + n, x.month(n), -11);
    due.is("count(1)", x.count(1), 5);
    due.is("undone", x.count(6), 4);
  }

  private static void undoBounds() {
    due.says("undo", "n calls (1 to 10): how many still can be. -3: n, more than can be");
    SeasonSeat x = due.riding(riders(2, ""));
    for (int n : new int[] {-1, 0, 1, 10, 11, LEAST, MOST}) due.is("none can be: undo " + n, x.undo(n), -3);
    for (int i = 0; i < 3; i++) x.month(i);
    for (int n : new int[] {-1, 0, 4, 10, 11, LEAST, MOST}) due.is("three can be: undo " + n, x.undo(n), -3);
    due.is("they still can be", x.count(6), 3);
    due.is("undo(3)", x.undo(3), 0);
    due.is("month", x.count(1), 5);
    for (int i = 0; i < 10; i++) x.month(i);
    due.is("undo(11)", x.undo(11), -3);
    due.is("undo(9)", x.undo(9), 1);
    due.is("month", x.count(1), 0);
    due.is("undo(2)", x.undo(2), -3);
    due.is("undo(1)", x.undo(1), 0);
    due.is("month", x.count(1), 5);
  }

  private static void undoneAsAWhole() {
    due.says("UNDONE", "Calls that did some can be UNDONE each as a whole: SEASONS, WARMTHS, SEATS, MONTH, STOPS");
    SeasonSeat x = due.riding(riders(3, "warms : seat + rider;"));
    due.fill(x, 0, 1, 2, 29, 102, 10, 0);
    due.is("perform", x.perform(0), 6);
    due.is("season", x.rider(0, 0), 2);
    due.is("seat", x.rider(0, 3), 2);
    due.is("month", x.count(1), 9);
    due.is("stops", x.count(5), 3);
    due.is("one call", x.count(6), 1);
    due.is("undo", x.undo(1), 0);
    for (int r = 0; r < 3; r++) {
      due.is("season", x.rider(r, 0), r);
      due.is("warmth", x.rider(r, 2), 2);
      due.is("seat", x.rider(r, 3), r);
      due.is("who sits there", x.seat(r), r);
    }
    due.is("month", x.count(1), 5);
    due.is("stops", x.count(5), 0);
    due.is("journey", x.journey(7, 40) > 0 ? 1 : 0, 1);
    due.is("one call", x.count(6), 1);
    due.is("stops(9)", x.stops(9) >= 0 ? 1 : 0, 1);
    due.is("two calls", x.count(6), 2);
    due.is("undo", x.undo(2), 0);
    due.is("stops", x.count(5), 0);
    due.says("UNDONE", "Calls that did some");
    SeasonSeat y = due.riding(riders(2, "may : 0 = 1;"));
    y.stop(1);
    y.stop(4);
    y.stops(0);
    y.give(0, 0);
    y.rug(2);
    y.month(10);
    due.fill(y, 0, 1, 0);
    due.is("perform none", y.perform(0), 0);
    due.fill(y, 0);
    due.is("perform none", y.perform(0), 0);
    y.judge(0, 0);
    y.image(0);
    y.journey(0, 0);
    due.is("none did some", y.count(6), 0);
    due.is("what is the same then is done, too", y.month(5), 5);
    due.is("undone", y.count(6), 1);
  }

  private static void undoneTen() {
    due.says("UNDONE", "the latest first, 10 at most (eldest are forgotten)");
    for (int calls = 9; calls <= 25; calls++) {
      SeasonSeat x = due.riding(riders(1, ""));
      for (int i = 0; i < calls; i++) x.stop(0);
      due.is(calls + " calls", x.count(6), Math.min(calls, 10));
      for (int left = Math.min(calls, 10); left > 0; left--) {
        due.is("undo(1)", x.undo(1), left - 1);
        due.is("the latest first", x.count(5), calls - Math.min(calls, 10) + left - 1);
      }
      due.is("the eldest are forgotten", x.undo(1), -3);
      due.is("they stay", x.count(5), Math.max(0, calls - 10));
    }
  }

  private static void undoneAgain() {
    due.says("UNDONE", "the latest first, behind undone ones, too");
    SeasonSeat x = due.riding(riders(1, ""));
    for (int i = 0; i < 12; i++) x.stops(1 + i);
    due.is("undo(4)", x.undo(4), 6);
    due.is("stops", x.count(5), 36);
    for (int i = 0; i < 3; i++) x.stops(99);
    due.is("nine can be", x.count(6), 9);
    due.is("undo(3)", x.undo(3), 6);
    due.is("stops", x.count(5), 36);
    due.is("undo(6)", x.undo(6), 0);
    due.is("stops", x.count(5), 3);
    due.is("undo(1)", x.undo(1), -3);
  }

  private static void undone(String name, long... args) {
    SeasonSeat x = Riding.busy();
    String call = name + java.util.Arrays.toString(args);
    long answer = Calls.call(x, name, args);
    due.is(call + " was done", answer >= 0 && x.count(6) == 5 ? 1 : 0, 1);
    due.is("undo", x.undo(1), 4);
    String changed = Look.changed(Riding::busy, x);
    due.is(call + " undone, left: " + changed, changed.length(), 0);
  }

  private static void undoneEach() {
    due.says("UNDONE", "SEASONS, WARMTHS, SEATS, MONTH, STOPS");
    undone("stop", 0);
    undone("stop", 1);
    undone("stops", 1);
    undone("stops", 99);
    undone("give", 0, 2);
    undone("rug", 0);
    undone("month", 9);
    undone("perform", 0);
    for (int seed = 0; seed < 10; seed++) undone("journey", seed, 40);
  }

  /** Whether a number is a deed that can be with so many riders, without a law may. */
  private static boolean isDeed(long v, int n) {
    if (v == 0 || v >= 20 && v <= 29) return true;
    if (v >= 1 && v <= 3) return v < n;
    if (v >= 10 && v <= 19) return v - 10 < n;
    if (v >= 100 && v <= 199) return (v - 100) / 10 < n && v % 10 < n && (v - 100) / 10 != v % 10;
    return false;
  }

  private static void whichDeeds() {
    due.says("DEEDS", "0; 1, 2, 3; 10 to 19: a RUG for RIDER v - 10; 20 to 29: MONTH v - 20; 100 to 199 GIVE ON; others: 1");
    long[] far = {Long.MIN_VALUE, Long.MAX_VALUE, 1L << 32, (1L << 32) + 20, (1L << 32) + 101, -(1L << 32), 1L << 31, -(1L << 31),
        65536, 65536 + 20, 1000, 1020, -256, 256 + 20};
    for (int n = 0; n <= 4; n++) {
      SeasonSeat x = null;
      for (int i = -60; i < 260 + far.length; i++) {
        long v = i < 260 ? i : far[i - 260];
        if (i % 20 == 0) x = due.riding(riders(n, ""));
        due.fill(x, 0, v);
        due.is(n + " riders, deed " + v, x.judge(0, 0), isDeed(v, n) ? -1 : 0);
        due.is(n + " riders, why " + v, x.judge(0, 1), isDeed(v, n) ? 0 : 1);
        due.is(n + " riders, perform " + v, x.perform(0), isDeed(v, n) ? 1 : 0);
        if (isDeed(v, n)) done(x, v, n);
      }
    }
    SeasonSeat x = due.riding(riders(4, "may : rider < 3;"));
    due.fill(x, 0, 3);
    due.is("2 the law may", x.judge(0, 1), 2);
  }

  /** One deed was done in a carriage as it was told: what it did is seen, then undone. */
  private static void done(SeasonSeat x, long v, int n) {
    due.is("stops behind " + v, x.count(5), v <= 3 ? 1 : 0);
    due.is("month behind " + v, x.count(1), v >= 20 && v <= 29 ? v - 20 : 5);
    int first = v >= 100 ? (int) (v - 100) / 10 : -1;
    int other = v >= 100 ? (int) v % 10 : -1;
    for (int r = 0; r < n && v >= 10; r++) {
      due.is("warmth behind " + v, x.rider(r, 2), v == 10 + r ? 4 : 2);
      due.is("season behind " + v, x.rider(r, 0), r == first ? other : r == other ? first : r);
      due.is("seat behind " + v, x.rider(r, 3), r);
    }
    due.is("undo", x.undo(1), 0);
  }

  private static void judgeBounds() {
    due.says("judge", "-2: the TRAY, what; -6");
    SeasonSeat x = due.riding(riders(3, ""));
    for (int tray = 0; tray < 4; tray++) {
      for (int what = 0; what <= 3; what++) due.is("missing", x.judge(tray, what), -6);
      for (int what : new int[] {-1, 4, LEAST, MOST}) due.is("what " + what, x.judge(tray, what), -2);
    }
    for (int tray : new int[] {-1, 4, LEAST, MOST}) for (int what = 0; what <= 3; what++) due.is("tray " + tray, x.judge(tray, what), -2);
    due.fill(x, 3, 0);
    for (int what : new int[] {-1, 4, LEAST, MOST}) due.is("what " + what, x.judge(3, what), -2);
    due.is("the last tray", x.judge(3, 2), 6);
    due.says("judge", "what 0: the first place that can't be (NONE), 1: why (0)");
    long[] deeds = new long[40];
    due.fill(x, 0, deeds);
    due.is("forty can be", x.judge(0, 0), -1);
    due.is("forty can be", x.judge(0, 1), 0);
    for (int place : new int[] {39, 1, 0}) {
      x.write(0, place, 4);
      due.is("place " + place, x.judge(0, 0), place);
      due.is("place " + place, x.judge(0, 1), 1);
    }
    due.fill(x, 1);
    due.is("no deeds", x.judge(1, 0), -1);
    due.is("no deeds", x.judge(1, 1), 0);
    SeasonSeat law = due.riding(riders(3, "may : month < 7;"));
    due.fill(law, 0, 1, 26, 2, 27, 0, 1, 3);
    due.is("by the law then", law.judge(0, 0), 5);
    due.is("by the law then", law.judge(0, 1), 2);
    due.is("nothing is done", law.count(1) * 10 + law.count(6), 50);
  }

  private static void judgeThen() {
    due.says("judge", "2: all WARMTHS together then, 3: the RIDER in SEAT 0 then (NONE without RIDERS)");
    SeasonSeat x = warmed("warms : warmth;", 1, 0, 3);
    due.fill(x, 0, 10, 1, 11, 2, 1);
    due.is("warmths", x.judge(0, 2), 11);
    due.is("seat 0", x.judge(0, 3), 2);
    due.fill(x, 1);
    due.is("no deeds", x.judge(1, 2), 4);
    due.is("no deeds", x.judge(1, 3), 0);
    due.fill(x, 2, 1, 12, 3, 10, 1);
    due.is("till one can't be", x.judge(2, 2), 5);
    due.is("till one can't be", x.judge(2, 3), 1);
    due.is("as if done", x.count(2) * 100 + x.seat(0) * 10 + x.count(6), 400);
    SeasonSeat alone = warmed("", 1);
    due.fill(alone, 0, 10);
    due.is("alone", alone.judge(0, 2), 4);
    due.is("alone", alone.judge(0, 3), 0);
    SeasonSeat none = new SeasonSeat();
    due.fill(none, 0, 0, 20);
    due.is("without riders", none.judge(0, 0), -1);
    due.is("without riders", none.judge(0, 1), 0);
    due.is("without riders", none.judge(0, 2), 0);
    due.is("without riders", none.judge(0, 3), -1);
  }

  private static void performBounds() {
    due.says("perform", "They are done, till one can't be: how many. -2; -6");
    SeasonSeat x = due.riding(riders(3, ""));
    for (int tray = 0; tray < 4; tray++) due.is("missing", x.perform(tray), -6);
    for (int tray : new int[] {-1, 4, LEAST, MOST}) due.is("tray " + tray, x.perform(tray), -2);
    due.fill(x, 3);
    due.is("none", x.perform(3), 0);
    due.fill(x, 3, new long[40]);
    due.is("forty", x.perform(3), 40);
    due.is("stops", x.count(5), 40);
    due.fill(x, 2, 1, 3, 21);
    due.is("till one can't be", x.perform(2), 1);
    due.is("what is behind it is not done", x.count(1), 5);
    due.is("seat 0", x.seat(0), 1);
    due.is("undone", x.count(6), 2);
    due.fill(x, 2, 3, 21);
    due.is("none", x.perform(2), 0);
    due.is("undone", x.count(6), 2);
    due.is("what is in the tray stays", x.judge(2, 0), 0);
  }

  private static void journeyBounds() {
    due.says("journey", "so many times (1 to 40); -3: how many times");
    for (int times : new int[] {0, -1, 41, LEAST, MOST}) {
      SeasonSeat x = due.riding(riders(4, ""));
      due.is("times " + times, x.journey(1, times), -3);
      due.is("nothing is done", x.count(5) + x.count(6), 0);
    }
    for (int times : new int[] {1, 2, 39, 40}) for (int n = 0; n <= 4; n++) for (int seed : new int[] {0, 1, -1, LEAST, MOST, 20261118}) travel(n, seed, times);
  }

  private static int at;
  private static int draw(int modulo) {
    at = 1103515245 * at + 12345;
    return (at >>> 16) % modulo;
  }

  /** A journey beside the same deeds done one by one. */
  private static void travel(int n, int seed, int times) {
    String text = riders(n, "warms : if heat > 3 then season + 1 else warmth + month - 4 end;may : seat = 0 or warmth > 1;");
    SeasonSeat x = due.riding(text);
    SeasonSeat y = due.riding(text);
    at = seed;
    int done = 0;
    for (int i = 0; i < times; i++) {
      int kind = draw(6);
      if (kind < 3) done += y.stop(draw(4)) >= 0 ? 1 : 0;
      else if (kind == 3) done += y.rug(draw(4)) >= 0 ? 1 : 0;
      else if (kind == 4) done += y.month(draw(10)) >= 0 ? 1 : 0;
      else {
        int first = draw(4);
        done += y.give(first, draw(4)) >= 0 ? 1 : 0;
      }
    }
    due.is("journey(" + seed + ", " + times + ")", x.journey(seed, times), done);
    for (int what = 0; what <= 5; what++) due.is("count(" + what + ")", x.count(what), y.count(what));
    for (int r = 0; r < n; r++) for (int what = 0; what < 4; what++) due.is("rider", x.rider(r, what), y.rider(r, what));
    due.is("undone as a whole, if some was done", x.count(6), done > 0 ? 1 : 0);
  }

  private static void journeyDraws() {
    due.says("JOURNEY", "x becomes 1103515245 x + 12345, it is x >>> 16");
    // From seed 0: 12345 >>> 16 is 0, so a stop; then x is 1103515245 * 12345 + 12345 = -740551042, >>> 16 54236, stop 0.
    SeasonSeat x = due.riding(riders(4, ""));
    due.is("x", 1103515245 * 12345 + 12345, -740551042);
    due.is("DRAW", -740551042 >>> 16, 54236);
    due.is("journey(0, 1)", x.journey(0, 1), 1);
    due.is("a stop at which nothing is done", x.count(5) * 10 + x.count(4), 10);
  }
}
