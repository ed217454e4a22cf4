/** The document's sentences on trays, images, counts (promises 37 to 42) and refused calls, each held on both sides of its bound. */
public final class ShelfBoundsTest {
  private static final Due due = new Due();
  private static final int LEAST = Integer.MIN_VALUE;
  private static final int MOST = Integer.MAX_VALUE;
  private static final String TWO = "train month 3;rider season 1 class 4 warm 0;rider season 2 class 5 warm 3;";
  private static final String CLOCK = "warms : if warmth = 4 then 0 else warmth + 1 end;";

  public static void main(String[] args) {
    traysAtFirst();
    numbersBounds();
    numbersStays();
    numbersAllNought();
    writeCuts();
    writeBounds();
    listsBounds();
    listsPlaces();
    imagesAtFirst();
    imagesBounds();
    imageHolds();
    nothingUndoneBehind();
    imagesStandApart();
    countBounds();
    countEach();
    refusedChangesNothing();
    askedChangesNothing();
    refusedWithoutRiders();
    codesInTheirOrder();
    due.end();
  }

  private static void traysAtFirst() {
    due.says("TRAYS", "0 to 3 are MISSING at first");
    SeasonSeat x = due.riding(TWO);
    for (int tray = 0; tray < 4; tray++) {
      due.is("write", x.write(tray, 0, 1), -6);
      due.is("perform", x.perform(tray), -6);
      due.is("lists", x.lists(tray, 0), -6);
      due.is("seasons", x.seasons(tray, 0), -6);
    }
    due.is("numbers", x.numbers(2, 0, 1), 0);
    due.is("this one is there", x.write(2, 0, 1), 1);
    due.is("others are missing", x.write(1, 0, 1), -6);
    due.is("others are missing", x.write(3, 0, 1), -6);
    due.board(x, TWO);
    due.is("a carriage leaves them", x.write(2, 0, 1), 1);
  }

  private static void numbersBounds() {
    due.says("numbers", "-2: no such TRAY, sort; -3: n is below 0 or above 40");
    SeasonSeat x = new SeasonSeat();
    for (int tray = 0; tray < 4; tray++) for (int sort = 0; sort < 4; sort++) for (int n : new int[] {0, 1, 39, 40}) due.is("numbers", x.numbers(tray, sort, n), 0);
    for (int n : new int[] {-1, 41, LEAST, MOST}) for (int sort = 0; sort < 4; sort++) due.is("n " + n, x.numbers(0, sort, n), -3);
    for (int tray : new int[] {-1, 4, LEAST, MOST}) {
      due.is("tray " + tray, x.numbers(tray, 0, 0), -2);
      due.is("ahead of n", x.numbers(tray, 0, 41), -2);
    }
    for (int sort : new int[] {-1, 4, LEAST, MOST}) {
      due.is("sort " + sort, x.numbers(0, sort, 0), -2);
      due.is("ahead of n", x.numbers(0, sort, -1), -2);
    }
  }

  private static void numbersStays() {
    due.says("numbers", "-3, and the TRAY stays");
    for (int n : new int[] {-1, 41}) {
      SeasonSeat x = due.riding(TWO);
      due.fill(x, 0, 1, 25, 99);
      due.is("refused", x.numbers(0, 0, n), -3);
      due.is("its numbers", x.judge(0, 0), 2);
      due.is("its sort", x.write(0, 2, 1L << 40), 1L << 40);
      due.is("its length", x.write(0, 3, 0), -7);
      due.is("one that is missing", x.numbers(1, 0, n), -3);
      due.is("it is missing still", x.write(1, 0, 0), -6);
    }
  }

  private static void numbersAllNought() {
    due.says("numbers", "A TRAY has n numbers of a sort, all 0 (in place of another one)");
    SeasonSeat x = due.riding(TWO);
    due.fill(x, 0, 99, 99, 99);
    due.is("numbers", x.numbers(0, 3, 3), 0);
    due.is("all can be", x.judge(0, 0), -1);
    due.is("three stops", x.perform(0), 3);
    due.is("at which nothing is done", x.count(4) * 10 + x.count(5), 3);
    due.is("fewer", x.numbers(0, 3, 1), 0);
    due.is("no second one", x.write(0, 1, 5), -7);
    due.is("more", x.numbers(0, 3, 40), 0);
    due.is("forty stops", x.perform(0), 40);
    due.is("another sort", x.numbers(0, 0, 2), 0);
    due.is("of 8 bits", x.write(0, 0, 300), 44);
    due.is("none", x.numbers(0, 2, 0), 0);
    due.is("none", x.write(0, 0, 0), -7);
    due.is("none", x.perform(0), 0);
  }

  private static void writeCuts() {
    due.says("write", "Number i of a TRAY is v, cut to its sort: as it is there");
    SeasonSeat x = new SeasonSeat();
    for (int sort = 0; sort < 4; sort++) {
      x.numbers(0, sort, 1);
      int bits = 8 << sort;
      long most = Long.MAX_VALUE >> 64 - bits;
      due.is("0", x.write(0, 0, 0), 0);
      due.is("-1", x.write(0, 0, -1), -1);
      due.is("the most", x.write(0, 0, most), most);
      due.is("the least", x.write(0, 0, -most - 1), -most - 1);
      due.is("one above", x.write(0, 0, most + 1), -most - 1);
      due.is("one below", x.write(0, 0, -most - 2), most);
      due.is("twice", x.write(0, 0, 2 * most + 1), -1);
      due.is("round", x.write(0, 0, 2 * most + 2), 0);
    }
    x.numbers(0, 0, 1);
    due.is("8 bits of many", x.write(0, 0, 0x1234567890abcdefL), (byte) 0xef);
    x.numbers(0, 1, 1);
    due.is("16 bits of many", x.write(0, 0, 0x1234567890abcdefL), (short) 0xcdef);
    x.numbers(0, 2, 1);
    due.is("32 bits of many", x.write(0, 0, 0x1234567890abcdefL), (int) 0x90abcdefL);
    x.numbers(0, 3, 1);
    due.is("64 bits", x.write(0, 0, 0x1234567890abcdefL), 0x1234567890abcdefL);
    SeasonSeat cut = due.riding(TWO);
    cut.numbers(0, 0, 1);
    cut.write(0, 0, 256 + 29);
    due.is("it is there as cut", cut.perform(0), 1);
    due.is("month", cut.count(1), 9);
  }

  private static void writeBounds() {
    due.says("write", "-2: no such TRAY; -6; -7");
    SeasonSeat x = new SeasonSeat();
    x.numbers(0, 3, 40);
    x.numbers(1, 3, 1);
    x.numbers(2, 3, 0);
    due.is("the first", x.write(0, 0, 7), 7);
    due.is("the last", x.write(0, 39, 8), 8);
    due.is("the only one", x.write(1, 0, 9), 9);
    for (int i : new int[] {-1, 40, 41, LEAST, MOST}) due.is("place " + i, x.write(0, i, 1), -7);
    for (int i : new int[] {-1, 1, 39, 40}) due.is("place " + i, x.write(1, i, 1), -7);
    for (int i : new int[] {-1, 0, 1}) due.is("place " + i, x.write(2, i, 1), -7);
    for (int i : new int[] {-1, 0, 40}) due.is("missing ahead of place " + i, x.write(3, i, 1), -6);
    for (int tray : new int[] {-1, 4, LEAST, MOST}) for (int i : new int[] {-1, 0}) due.is("tray " + tray, x.write(tray, i, 1), -2);
    SeasonSeat y = due.riding(TWO);
    due.fill(y, 0, 20, 99);
    y.write(0, 2, 21);
    y.write(0, -1, 21);
    due.is("others stay", y.judge(0, 0), 1);
    y.write(0, 1, 21);
    due.is("now it is there", y.judge(0, 0), -1);
  }

  private static void listsBounds() {
    due.says("lists", "-2: the TRAY, the RIDER; -6");
    SeasonSeat x = due.riding(TWO + CLOCK);
    x.numbers(0, 0, 3);
    for (int tray : new int[] {-1, 4, LEAST, MOST}) due.is("tray " + tray, x.lists(tray, 0), -2);
    for (int r : new int[] {-1, 2, LEAST, MOST}) {
      due.is("rider " + r, x.lists(0, r), -2);
      due.is("ahead of missing", x.lists(1, r), -2);
    }
    due.is("missing", x.lists(1, 0), -6);
    due.is("missing", x.lists(3, 1), -6);
    due.is("without riders", new SeasonSeat().lists(0, 0), -2);
    due.fill(x, 2, 99);
    due.is("refused", x.lists(2, 2), -2);
    due.is("the tray stays", x.judge(2, 0), 0);
  }

  private static void listsPlaces() {
    due.says("lists", "WARMTHS of a RIDER behind 1, 2, 3 .. STOPS of SETTLING come into a TRAY, as many as it has places: how many");
    SeasonSeat still = due.riding("train month 0;rider season 0 class 0 warm 0;warms : warmth;");
    for (int n : new int[] {0, 1, 39, 40}) {
      still.numbers(0, 3, n);
      for (int i = 0; i < n; i++) still.write(0, i, 99);
      due.is("places", still.lists(0, 0), n);
      due.is("each is 0 now", still.judge(0, 0), -1);
    }
    for (int sort = 0; sort < 4; sort++) {
      SeasonSeat x = due.riding(TWO + CLOCK);
      x.numbers(0, sort, 10);
      due.is("ten", x.lists(0, 1), 10);
      due.is("as it is felt", x.months(0, 1), 1023);
      // 4, so no deed, is first behind one stop.
      due.is("behind one stop", x.judge(0, 0), 0);
      due.is("of the other one", x.lists(0, 0), 10);
      due.is("behind 1, 2, 3 stops", x.judge(0, 0), 1);
      x.numbers(0, sort, 1);
      x.lists(0, 0);
      due.is("1", x.judge(0, 3), 1);
    }
    SeasonSeat x = due.riding(TWO + CLOCK);
    x.numbers(0, 0, 4);
    x.lists(0, 1);
    due.is("nothing is done", x.count(5) + x.count(6), 0);
    x.stop(0);
    due.is("from now on", x.lists(0, 1), 4);
    due.is("0, 1, 2, 3", x.judge(0, 0), 2);
  }

  private static void imagesAtFirst() {
    due.says("IMAGES", "0 to 1 (none at first); -5: none was made");
    SeasonSeat x = due.riding(TWO);
    due.is("restore(0)", x.restore(0), -5);
    due.is("restore(1)", x.restore(1), -5);
    due.is("image(1)", x.image(1), 0);
    due.is("restore(0)", x.restore(0), -5);
    due.is("restore(1)", x.restore(1), 0);
  }

  private static void imagesBounds() {
    due.says("image, restore", "-2");
    SeasonSeat x = due.riding(TWO);
    for (int i : new int[] {-1, 2, 3, LEAST, MOST}) {
      due.is("image " + i, x.image(i), -2);
      due.is("restore " + i, x.restore(i), -2);
    }
    x.image(0);
    x.image(1);
    for (int i : new int[] {-1, 2, 3, LEAST, MOST}) {
      due.is("image " + i, x.image(i), -2);
      due.is("restore " + i, x.restore(i), -2);
    }
  }

  private static void imageHolds() {
    due.says("restore", "All that is in an IMAGE is as it was: THE CARRIAGE and what a call could bring back by UNDOING");
    SeasonSeat x = due.riding(TWO + "warms : seat + 1;may : month > 2;");
    x.stop(1);
    x.give(0, 1);
    x.month(8);
    due.is("image(0)", x.image(0), 0);
    due.board(x, "train month 1;rider season 0 class 0 likes 1 1 1 1;");
    x.stops(5);
    due.fill(x, 0, 25);
    x.feed(1, 2, 3, 4, 5);
    due.is("restore(0)", x.restore(0), 0);
    due.is("riders", x.count(0), 2);
    due.is("lines", x.count(8), 5);
    due.is("month", x.count(1), 8);
    due.is("stops", x.count(5), 1);
    due.is("seasons", x.rider(0, 0) * 10 + x.rider(1, 0), 21);
    due.is("classes", x.rider(0, 1) * 10 + x.rider(1, 1), 45);
    due.is("warmths", x.rider(0, 2) * 10 + x.rider(1, 2), 21);
    due.is("seats", x.rider(0, 3) * 10 + x.rider(1, 3), 10);
    due.is("likes", x.rider(0, 10), 0);
    due.is("the law warms", x.by(0, 0), 2);
    due.is("the law may", x.why(1), 0);
    x.month(2);
    due.is("the law may", x.why(1), 2);
    due.is("the tape is no part of it", x.count(7), 20);
    due.is("trays are no part of it", x.judge(0, 0), -1);
    SeasonSeat none = new SeasonSeat();
    none.month(4);
    none.stops(2);
    none.image(1);
    due.board(none, TWO);
    due.is("restore(1)", none.restore(1), 0);
    due.is("no riders", none.count(0), 0);
    due.is("no lines", none.count(8), 0);
    due.is("month, stops", none.count(1) * 10 + none.count(5), 42);
  }

  private static void nothingUndoneBehind() {
    due.says("IMAGES", "nothing can be UNDONE behind");
    SeasonSeat x = due.riding(TWO);
    x.month(7);
    x.stop(0);
    x.image(0);
    due.is("image() forgets none", x.count(6), 2);
    due.is("image() is none of them", x.undo(2), 0);
    x.month(9);
    due.is("restore", x.restore(0), 0);
    due.is("none", x.count(6), 0);
    due.is("none", x.undo(1), -3);
    x.rug(0);
    due.is("later ones can be", x.undo(1), 0);
    due.is("back to the image", x.count(1) * 10 + x.count(5), 71);
  }

  private static void imagesStandApart() {
    due.says("restore", "as it was: again, each on its own, a later one in place of an earlier one");
    SeasonSeat x = due.riding(TWO);
    x.image(0);
    x.month(7);
    x.image(1);
    x.stops(4);
    due.is("restore(0)", x.restore(0), 0);
    due.is("month", x.count(1), 3);
    x.stops(2);
    due.is("restore(1)", x.restore(1), 0);
    due.is("month", x.count(1), 7);
    due.is("stops", x.count(5), 0);
    x.rug(0);
    due.is("restore(0)", x.restore(0), 0);
    due.is("as it was", x.count(1) * 100 + x.count(5) * 10 + x.rider(0, 2), 300);
    x.stop(1);
    due.is("image(0)", x.image(0), 0);
    x.undo(1);
    due.is("restore(0)", x.restore(0), 0);
    due.is("the later one", x.count(5) * 10 + x.seat(0), 11);
  }

  private static void countBounds() {
    due.says("count", "NONE for others");
    for (int what : new int[] {-1, 9, 10, 100, LEAST, MOST}) {
      due.is("count " + what, new SeasonSeat().count(what), -1);
      due.is("count " + what, due.riding(TWO).count(what), -1);
    }
    due.is("NONE", SeasonSeat.NONE, -1);
  }

  private static void countEach() {
    due.says("count", "3 the least WARMTH (NONE without RIDERS)");
    due.is("without riders", new SeasonSeat().count(3), -1);
    due.is("without riders", due.riding("train month 0;").count(3), -1);
    due.is("least", due.riding(TWO).count(3), 0);
    due.is("least", due.riding("train month 0;rider season 0 class 0 warm 4;").count(3), 4);
    due.says("count", "2 all WARMTHS together");
    due.is("without riders", new SeasonSeat().count(2), 0);
    due.is("all", due.riding(TWO).count(2), 3);
    SeasonSeat full = due.riding("train month 9;rider season 0 class 0 warm 4;rider season 0 class 0 warm 4;rider season 0 class 0 warm 4;rider season 0 class 0 warm 4;");
    due.is("sixteen", full.count(2), 16);
    due.says("count", "4 who are in other SEATS than their number, as bits");
    due.is("none", full.count(4), 0);
    full.stop(1);
    due.is("0 and 1", full.count(4), 3);
    full.stop(3);
    due.is("all", full.count(4), 15);
    full.stop(1);
    due.is("2 and 3", full.count(4), 12);
    full.undo(3);
    full.stop(1);
    full.stop(2);
    full.stop(1);
    due.is("0 and 2, 1 in the middle", full.count(4), 5);
    due.says("count", "0 RIDERS, 1 MONTH, 5 STOPS, 6 calls that can be UNDONE, 7 bytes on THE TAPE, 8 LINES");
    due.is("riders", full.count(0), 4);
    due.is("month", full.count(1), 9);
    due.is("stops", full.count(5), 3);
    due.is("undone", full.count(6), 3);
    due.is("tape", full.count(7), 0);
    due.is("lines", full.count(8), 5);
    full.feed(0, 0, 0, 0, 0);
    full.feed(0, 0, 0, 0, 0);
    due.is("tape", full.count(7), 40);
    due.is("a fault", full.train(40), -31);
    due.is("lines", full.count(8), 5);
    due.is("tape", full.count(7), 0);
  }

  /** A refused call on an object in which something of each kind stands: its code, and that nothing is changed. */
  private static void refused(String name, long code, long... args) {
    SeasonSeat x = Riding.busy();
    String call = name + java.util.Arrays.toString(args);
    due.is(call, Calls.call(x, name, args), code);
    String changed = Look.changed(Riding::busy, x);
    due.is(call + " changed: " + changed, changed.length(), 0);
  }

  private static void refusedChangesNothing() {
    due.says("codes", "Refused calls answer by a code and change nothing");
    refused("train", -3, -1);
    refused("train", -3, 41);
    refused("fault", -1, 2);
    refused("rider", -2, 3, 0);
    refused("rider", -2, 0, 4);
    refused("seat", -2, 3);
    refused("why", 1, 4);
    refused("why", 2, 2);
    refused("by", -2, 0, 3);
    refused("by", -5, 2, 0);
    refused("by", -5, 3, 0);
    refused("stop", -11, 4);
    refused("stop", -11, 3);
    refused("stop", -12, 2);
    refused("stops", -3, 0);
    refused("stops", -3, 100);
    refused("give", -11, 0, 0);
    refused("give", -11, 0, 3);
    refused("give", -11, 3, 0);
    refused("rug", -11, 3);
    refused("rug", -11, -1);
    refused("month", -11, 10);
    refused("month", -11, -1);
    refused("undo", -3, 0);
    refused("undo", -3, 5);
    refused("undo", -3, 11);
    refused("judge", -2, 4, 0);
    refused("judge", -2, 0, 4);
    refused("judge", -6, 3, 0);
    refused("perform", -2, 4);
    refused("perform", -6, 3);
    refused("perform", 0, 2);
    refused("journey", -3, 1, 0);
    refused("journey", -3, 1, 41);
    refused("lies", -2, 3, 0);
    refused("lies", -3, 0, 100000);
    refused("round", -2, 2);
    refused("when", -3, 5);
    refused("soonest", -3, 5);
    refused("way", -3, 5, 0);
    refused("way", -3, 0, -1);
    refused("rows", -3, 5, 0);
    refused("rows", -3, 0, 13);
    refused("keeps", -3, 5);
    refused("most", -2, 3);
    refused("placing", -2, 0, 13);
    refused("placing", -3, 21, 0);
    refused("trades", -2, 3, 0);
    refused("trades", -2, 0, 2);
    for (String felt : new String[] {"seasons", "months", "attempt"}) {
      refused(felt, -2, 4, 0);
      refused(felt, -2, 1, 3);
      refused(felt, -6, 3, 0);
      refused(felt, -4, 2, 0);
      refused(felt, -3, 0, 0);
    }
    refused("forces", -2, 3, 0);
    refused("forces", -3, 0, 5);
    refused("best", -2, 3, 0);
    refused("best", -3, 0, 5);
    refused("chance", -2, 0, 0, 2);
    refused("chance", -3, 5, 0, 0);
    refused("chance", -3, 0, 7, 0);
    refused("mean", -2, 0, 2);
    refused("mean", -3, 7, 0);
    refused("numbers", -2, 4, 0, 1);
    refused("numbers", -2, 0, 4, 1);
    refused("numbers", -3, 0, 0, 41);
    refused("numbers", -3, 3, 0, -1);
    refused("write", -2, 4, 0, 1);
    refused("write", -6, 3, 0, 1);
    refused("write", -7, 0, 4, 1);
    refused("write", -7, 2, 0, 1);
    refused("lists", -2, 4, 0);
    refused("lists", -2, 1, 3);
    refused("lists", -6, 3, 0);
    refused("image", -2, 2);
    refused("restore", -2, 2);
    refused("restore", -5, 1);
    refused("count", -1, 9);
  }

  /** A call that only asks. */
  private static void asked(String name, long... args) {
    SeasonSeat x = Riding.busy();
    String call = name + java.util.Arrays.toString(args);
    long answer = Calls.call(x, name, args);
    due.is(call + " asked twice", Calls.call(x, name, args), answer);
    String changed = Look.changed(Riding::busy, x);
    due.is(call + " changed: " + changed, changed.length(), 0);
  }

  private static void askedChangesNothing() {
    due.says("each that asks", "nothing is done");
    for (int what = 0; what <= 3; what++) for (int tray = 0; tray < 3; tray++) asked("judge", tray, what);
    asked("why", 1);
    asked("by", 0, 0);
    asked("lies", 1, 99999);
    asked("round", 1);
    asked("when", 4);
    for (int k = 0; k <= 4; k++) {
      asked("soonest", k);
      asked("way", k, 0);
      asked("rows", k, 12);
      asked("keeps", k);
      asked("forces", 0, k);
      asked("best", 1, k);
      asked("chance", k, 6, 0);
    }
    asked("most", 2);
    asked("stands");
    asked("placing", 20, 0);
    asked("trades", 0, 0);
    asked("glad");
    asked("seasons", 1, 0);
    asked("months", 1, 0);
    asked("attempt", 1, 0);
    asked("mean", 6, 1);
    asked("count", 5);
    asked("fault", 1);
  }

  private static void refusedWithoutRiders() {
    due.says("each", "without RIDERS");
    SeasonSeat x = new SeasonSeat();
    due.is("rider", x.rider(0, 0), -2);
    due.is("seat", x.seat(0), -2);
    due.is("why(0)", x.why(0), 0);
    due.is("why(1)", x.why(1), 1);
    due.is("by", x.by(0, 0), -2);
    due.is("stop(1)", x.stop(1), -11);
    due.is("give", x.give(0, 1), -11);
    due.is("rug", x.rug(0), -11);
    due.is("undo", x.undo(1), -3);
    due.is("seasons", x.seasons(0, 0), -2);
    due.is("lists", x.lists(0, 0), -2);
    String changed = Look.changed(SeasonSeat::new, x);
    due.is("changed: " + changed, changed.length(), 0);
  }

  private static void codesInTheirOrder() {
    due.says("codes", "Of several that which the call tells first; all these ahead of NONE");
    SeasonSeat x = Riding.busy();
    due.is("by: the rider ahead of the stop", x.by(4, 3), -2);
    due.is("judge: what ahead of missing", x.judge(3, 4), -2);
    due.is("lies: the rider ahead of n", x.lies(3, -1), -2);
    due.is("placing: what ahead of n", x.placing(21, 2), -2);
    due.is("seasons: the rider ahead of missing", x.seasons(3, 3), -2);
    due.fill(x, 3, 9, 9, 9, 9, 9, 9, 9, 9, 9, 9, 9);
    due.is("seasons: how many ahead of which", x.seasons(3, 0), -4);
    due.is("months: how many ahead of which", x.months(3, 0), -4);
    due.is("attempt: how many ahead of which", x.attempt(3, 0), -4);
    due.is("forces: the rider ahead of k", x.forces(3, 5), -2);
    due.is("best: the rider ahead of k", x.best(3, 5), -2);
    due.is("chance: what ahead of k and n", x.chance(5, 7, 2), -2);
    due.is("mean: what ahead of n", x.mean(7, 2), -2);
    due.is("numbers: sort ahead of n", x.numbers(0, 4, 41), -2);
    due.is("write: the tray ahead of the place", x.write(4, -1, 0), -2);
    due.is("lists: the rider ahead of missing", new SeasonSeat().lists(0, 0), -2);
    due.is("restore: no such one ahead of none made", new SeasonSeat().restore(2), -2);
    due.is("way: ahead of NONE", x.way(0, -1), -3);
    due.is("placing: ahead of NONE", new SeasonSeat().placing(21, 0), -3);
    due.is("placing: ahead of NONE", new SeasonSeat().placing(0, 10), -2);
    due.is("best: ahead of NONE", x.best(0, -1), -3);
  }
}
