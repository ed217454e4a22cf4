/** The document's sentences on the tape, texts, tokens and faults (promises 1 to 4), each held on both sides of its bound. */
public final class TextBoundsTest {
  private static final Due due = new Due();
  private static final int LEAST = Integer.MIN_VALUE;
  private static final int MOST = Integer.MAX_VALUE;
  private static final String HEAD = "train month 1;";
  private static final String RIDER = "rider season 0 class 0";

  public static void main(String[] args) {
    withoutText();
    tapeIsFull();
    feedHighestFirst();
    textOf900();
    trainTakesBytes();
    trainCuts();
    trainAnew();
    faultsChangeNothing();
    faultAsked();
    monthBounds();
    seasonBounds();
    classBounds();
    warmBounds();
    likesBounds();
    laterFlags();
    laterLaws();
    ridersBounds();
    noLines();
    blanks();
    everyByte();
    tokensGoOn();
    digits();
    theEnd();
    trainFirstAndOnce();
    namesInMay();
    lines();
    sums();
    truths();
    sixWithinOneAnother();
    nestingIsLeft();
    firstAlongTheText();
    leastKind();
    due.end();
  }

  private static String repeat(String part, int times) {
    StringBuilder b = new StringBuilder();
    for (int i = 0; i < times; i++) b.append(part);
    return b.toString();
  }

  private static SeasonSeat good(String text, int lines) {
    SeasonSeat x = new SeasonSeat();
    due.is(text, due.board(x, text), lines);
    due.is(text + " | fault(0)", x.fault(0), 0);
    due.is(text + " | fault(1)", x.fault(1), -1);
    due.is(text + " | count(8)", x.count(8), lines);
    return x;
  }

  /** A fault at the sign ^, which is no part of the text. */
  private static void bad(String marked, int kind) {
    int place = marked.indexOf('^');
    String text = marked.substring(0, place) + marked.substring(place + 1);
    SeasonSeat x = new SeasonSeat();
    due.is(marked, due.board(x, text), -30 - kind);
    due.is(marked + " | fault(0)", x.fault(0), kind);
    due.is(marked + " | fault(1)", x.fault(1), place);
    due.is(marked + " | count(8)", x.count(8), 0);
  }

  private static void withoutText() {
    due.says("THE CARRIAGE", "without one: no RIDERS, MONTH 0");
    SeasonSeat x = new SeasonSeat();
    due.is("count(0)", x.count(0), 0);
    due.is("count(1)", x.count(1), 0);
    due.is("count(8)", x.count(8), 0);
    due.is("rider(0, 0)", x.rider(0, 0), -2);
    due.is("seat(0)", x.seat(0), -2);
  }

  private static void tapeIsFull() {
    due.says("feed", "-5: it would have more than 900");
    SeasonSeat x = new SeasonSeat();
    for (int i = 1; i <= 45; i++) due.is("feed", x.feed(i, i, i, i, i), 20 * i);
    due.is("the 46th", x.feed(1, 2, 3, 4, 5), -5);
    due.is("count(7)", x.count(7), 900);
    due.is("again", x.feed(0, 0, 0, 0, 0), -5);
    Look.Made full = () -> fullTape();
    SeasonSeat refused = fullTape();
    due.is("feed", refused.feed(0x61616161, -1, 0, 1, 2), -5);
    String changed = Look.changed(full, refused);
    due.is("nothing is changed: " + changed, changed.length(), 0);
    due.is("empty behind train", x.train(0), -32);
    due.is("feed", x.feed(1, 2, 3, 4, 5), 20);
  }

  /** A tape of 900 bytes, blanks but for a text at its end, so that a byte too many or lost is seen. */
  private static SeasonSeat fullTape() {
    SeasonSeat x = new SeasonSeat();
    StringBuilder text = new StringBuilder();
    String tail = "train month 7;rider season 3 class 1;";
    while (text.length() + tail.length() < 900) text.append(' ');
    for (long[] f : Calls.feeds(TextMaker.bytes(text + tail))) Calls.call(x, "feed", f);
    return x;
  }

  private static void feedHighestFirst() {
    due.says("feed", "the highest of each int first");
    SeasonSeat x = new SeasonSeat();
    // "trai" "n mo" "nth " "8;  " and blanks.
    due.is("feed", x.feed(0x74726169, 0x6e206d6f, 0x6e746820, 0x383b2020, 0x20202020), 20);
    due.is("train(20)", x.train(20), 1);
    due.is("month", x.count(1), 8);
    due.says("feed", "Twenty bytes come behind those on THE TAPE");
    x.feed(0x74726169, 0x6e206d6f, 0x6e746820, 0x20202020, 0x20202020);
    due.is("feed", x.feed(0x0a0a0a37, 0x3b000000, 0, 0, 0), 40);
    due.is("train(25)", x.train(25), 1);
    due.is("month", x.count(1), 7);
    due.is("bytes above 127", x.feed(0xff80ffff, -1, -1, -1, -1), 20);
    due.is("train(1)", x.train(1), -31);
    due.is("fault(1)", x.fault(1), 0);
  }

  private static void textOf900() {
    due.says("THE CARRIAGE", "a TEXT of at most 900 bytes");
    String body = "warms : 3;";
    StringBuilder text = new StringBuilder(HEAD + RIDER + ";");
    while (text.length() < 900 - body.length()) text.append(' ');
    SeasonSeat x = good(text + body, 3);
    due.is("the last line is read", x.by(0, 0), 3);
    SeasonSeat y = new SeasonSeat();
    for (long[] f : Calls.feeds(TextMaker.bytes(text + body))) Calls.call(y, "feed", f);
    due.is("901", y.train(901), -3);
    due.is("899", y.train(899), -32);
    due.is("its end", y.fault(1), 899);
    good(HEAD + repeat("may:1=1;", 110), 111);
    SeasonSeat z = good(HEAD + RIDER + ";warms:" + repeat("1-", 425) + "0;", 3);
    due.is("a long sum", z.by(0, 0), 0);
  }

  private static void trainTakesBytes() {
    due.says("train", "The first n bytes of THE TAPE (which is empty then)");
    SeasonSeat x = new SeasonSeat();
    for (long[] f : Calls.feeds(TextMaker.bytes("train month 4;" + RIDER + ";"))) Calls.call(x, "feed", f);
    due.is("train(14)", x.train(14), 1);
    due.is("riders", x.count(0), 0);
    due.is("month", x.count(1), 4);
    due.is("the tape", x.count(7), 0);
    due.is("there is none", x.train(1), -3);
    due.says("train", "-3: n is below 0 or above what there is (THE TAPE stays)");
    for (int n : new int[] {-1, LEAST, 41, MOST}) {
      SeasonSeat y = someTape();
      due.is("train " + n, y.train(n), -3);
      String changed = Look.changed(() -> someTape(), y);
      due.is("nothing is changed: " + changed, changed.length(), 0);
    }
    due.is("all that there is", someTape().train(40), 2);
    SeasonSeat z = someTape();
    due.is("none of it", z.train(0), -32);
    due.is("its place", z.fault(1), 0);
    due.is("the tape is empty then", z.count(7), 0);
    due.says("train", "STOPS are 0, nothing can be UNDONE");
    SeasonSeat w = due.riding(HEAD + RIDER + ";");
    w.stop(0);
    w.month(5);
    w.rug(0);
    due.is("train", due.board(w, HEAD + RIDER + ";"), 2);
    due.is("stops", w.count(5), 0);
    due.is("undone", w.count(6), 0);
    due.is("undo", w.undo(1), -3);
    due.is("month", w.count(1), 1);
    due.is("warmth", w.rider(0, 2), 2);
  }

  /** A text cut from a tape that goes on: what is behind the first n bytes is not seen. */
  private static void cut(String tape, int n, int answer, int place) {
    SeasonSeat x = new SeasonSeat();
    for (long[] f : Calls.feeds(TextMaker.bytes(tape))) Calls.call(x, "feed", f);
    due.is(tape + " | train " + n, x.train(n), answer);
    due.is(tape + " | its place", x.fault(1), place);
  }

  private static void trainCuts() {
    due.says("train", "The first n bytes of THE TAPE");
    cut("train month 1;", 13, -32, 13);
    cut("train month 12;", 13, -32, 13);
    cut("train month 12;", 14, -33, 12);
    cut("train month 1234;", 15, -33, 12);
    cut("train month 1234;", 16, -31, 12);
    cut("trains month 1;", 5, -32, 5);
    cut("trains month 1;", 6, -32, 0);
    cut("train month 1; ,", 15, 1, -1);
    cut("train month 1; ,", 16, -31, 15);
    cut("train month 1;;", 14, 1, -1);
    cut("train month 1;warms:seats;", 24, -32, 24);
    cut("train month 1;warms:seats;", 25, -32, 20);
    StringBuilder blanks = new StringBuilder(HEAD);
    while (blanks.length() < 895) blanks.append(' ');
    cut(blanks + "rider", 900, -32, 900);
    cut(blanks + " ride", 900, -32, 896);
    cut(blanks + "  123", 900, -32, 897);
    cut(blanks + " 1234", 900, -31, 896);
    cut(blanks + "     ", 900, 1, -1);
    // What an earlier text left behind these bytes is not seen either.
    SeasonSeat x = new SeasonSeat();
    for (long[] f : Calls.feeds(TextMaker.bytes("train month 8;rider season 1 class 1;rider"))) Calls.call(x, "feed", f);
    due.is("earlier", x.train(37), 2);
    for (long[] f : Calls.feeds(TextMaker.bytes("train month 8;rider "))) Calls.call(x, "feed", f);
    due.is("later", x.train(20), -32);
    due.is("its end", x.fault(1), 20);
  }

  private static void trainAnew() {
    due.says("train", "The first n bytes of THE TAPE are THE CARRIAGE");
    String two = HEAD + RIDER + ";" + RIDER + ";";
    SeasonSeat x = due.riding(two + "warms : 1;may : 1 = 1;");
    due.is("by", x.by(0, 0), 1);
    due.is("why", x.why(1), 0);
    x.stop(1);
    x.rug(0);
    due.board(x, two + "warms : 3;may : 0 = 1;");
    for (int s = 0; s < 2; s++) {
      due.is("RIDER r sits in SEAT r at first", x.seat(s), s);
      due.is("its warmth", x.rider(s, 2), 2);
      due.is("the law warms", x.by(0, s), 3);
    }
    due.is("the law may", x.why(1), 2);
    due.board(x, two);
    due.is("without warms", x.by(0, 0), 2);
    due.is("without may", x.why(1), 0);
    due.board(x, HEAD);
    due.is("no riders", x.count(0) + x.count(2) + x.count(4), 0);
    due.is("no riders", x.rider(0, 0), -2);
  }

  private static SeasonSeat someTape() {
    SeasonSeat x = due.riding("train month 4;" + RIDER + ";");
    x.stop(0);
    for (long[] f : Calls.feeds(TextMaker.bytes("train month 6;rider season 2 class 5;"))) Calls.call(x, "feed", f);
    return x;
  }

  private static void faultsChangeNothing() {
    due.says("train", "all stays with a FAULT");
    String[] faults = {"train month 3;,", "train month 3;rider", "train month 3;rider season 4 class 0;",
        "train month 3;" + repeat(RIDER + " warm 4;", 5), "train month 3;" + RIDER + " warm 4;warms : 0;may : 0 = 1"};
    int[] codes = {-31, -32, -33, -34, -32};
    for (int i = 0; i < faults.length; i++) {
      SeasonSeat x = Riding.busy();
      x.train(0);
      due.is(faults[i], due.board(x, faults[i]), codes[i]);
      due.is("the tape is empty then", x.count(7), 0);
      String changed = Look.changedBesideTape(() -> Riding.busy(), x);
      due.is(faults[i] + " changed: " + changed, changed.length(), 0);
    }
  }

  private static void faultAsked() {
    due.says("fault", "what 0: its FAULT (0), 1: its place (NONE). NONE for others");
    SeasonSeat x = new SeasonSeat();
    due.is("no train yet", x.fault(0), 0);
    due.is("no train yet", x.fault(1), -1);
    due.board(x, "train month 1,");
    due.is("fault(0)", x.fault(0), 1);
    due.is("fault(1)", x.fault(1), 13);
    for (int what : new int[] {-1, 2, 3, LEAST, MOST}) due.is("fault " + what, x.fault(what), -1);
    due.says("fault", "Of the latest train() that was read");
    due.is("not read", x.train(1), -3);
    due.is("not read", x.train(-1), -3);
    due.is("fault(0)", x.fault(0), 1);
    due.is("fault(1)", x.fault(1), 13);
    due.board(x, HEAD);
    due.is("fault(0)", x.fault(0), 0);
    due.is("fault(1)", x.fault(1), -1);
    due.board(x, "");
    due.is("fault(0)", x.fault(0), 2);
    due.is("fault(1)", x.fault(1), 0);
  }

  private static void monthBounds() {
    due.says("TERMS", "train: the MONTH, 0 to 9");
    for (int month = 0; month <= 9; month++) due.is("month", good("train month " + month + ";", 1).count(1), month);
    due.is("three digits", good("train month 009;", 1).count(1), 9);
    bad("train month ^10;", 3);
    bad("train month ^010;", 3);
    bad("train month ^999;", 3);
    bad("train month ^- 1;", 2);
  }

  private static void seasonBounds() {
    due.says("TERMS", "rider: SEASON 0 to 3");
    for (int s = 0; s <= 3; s++) due.is("season", good(HEAD + "rider season " + s + " class 0;", 2).rider(0, 0), s);
    bad(HEAD + "rider season ^4 class 0;", 3);
    bad(HEAD + "rider season ^999 class 0;", 3);
    bad(HEAD + RIDER + ";rider season ^4 class 0;", 3);
  }

  private static void classBounds() {
    due.says("TERMS", "class 0 to 9");
    for (int c = 0; c <= 9; c++) due.is("class", good(HEAD + "rider season 0 class " + c + ";", 2).rider(0, 1), c);
    bad(HEAD + "rider season 0 class ^10;", 3);
    bad(HEAD + "rider season 0 class ^999;", 3);
    bad(HEAD + "rider season 0^;", 2);
    bad(HEAD + "rider ^class 0 season 0;", 2);
  }

  private static void warmBounds() {
    due.says("TERMS", "warm: how warm, 0 to 4 (2)");
    for (int w = 0; w <= 4; w++) due.is("warm", good(HEAD + RIDER + " warm " + w + ";", 2).rider(0, 2), w);
    due.is("none told", good(HEAD + RIDER + ";", 2).rider(0, 2), 2);
    bad(HEAD + RIDER + " warm ^5;", 3);
    bad(HEAD + RIDER + " warm ^999;", 3);
    bad(HEAD + RIDER + " warm^;", 2);
    bad(HEAD + RIDER + " warm 1 ^1;", 2);
  }

  private static void likesBounds() {
    due.says("TERMS", "likes: how much it likes SEASONS 0, 1, 2, 3, 0 to 9 each (0)");
    SeasonSeat x = good(HEAD + RIDER + " likes 9 0 8 1;" + RIDER + ";", 3);
    long[] likes = {9, 0, 8, 1};
    for (int s = 0; s < 4; s++) due.is("likes", x.rider(0, 10 + s), likes[s]);
    for (int s = 0; s < 4; s++) due.is("none told", x.rider(1, 10 + s), 0);
    bad(HEAD + RIDER + " likes ^10 0 0 0;", 3);
    bad(HEAD + RIDER + " likes 0 ^10 0 0;", 3);
    bad(HEAD + RIDER + " likes 0 0 ^10 0;", 3);
    bad(HEAD + RIDER + " likes 0 0 0 ^10;", 3);
    bad(HEAD + RIDER + " likes^;", 2);
    bad(HEAD + RIDER + " likes 9 9 9^;", 2);
    bad(HEAD + RIDER + " likes 9 9 9 ^warm 1;", 2);
    bad(HEAD + RIDER + " likes 9 9 9 9 ^9;", 2);
  }

  private static void laterFlags() {
    due.says("TERMS", "later ones strike");
    SeasonSeat x = good(HEAD + RIDER + " warm 4 likes 1 2 3 4 warm 0 likes 5 0 6 0 warm 1;", 2);
    due.is("warm", x.rider(0, 2), 1);
    long[] likes = {5, 0, 6, 0};
    for (int s = 0; s < 4; s++) due.is("likes", x.rider(0, 10 + s), likes[s]);
  }

  private static void laterLaws() {
    due.says("TERMS", "Later ones of warms, may strike");
    SeasonSeat x = good(HEAD + RIDER + ";warms : 1;may : 0 = 1;" + RIDER + ";may : 1 = 1;warms : 3;", 7);
    due.is("warms", x.by(0, 0), 3);
    due.is("may", x.why(1), 0);
    SeasonSeat y = good(HEAD + "may : 1 = 1;may : 0 = 1;warms : 3;warms : 1;" + RIDER + ";" + RIDER + ";", 7);
    due.is("warms", y.by(0, 1), 1);
    due.is("may", y.why(1), 2);
  }

  private static void ridersBounds() {
    due.says("TERMS", "numbered from 0 on, 4 at most; as many SEATS as RIDERS, RIDER r sits in SEAT r at first");
    for (int n = 0; n <= 4; n++) {
      StringBuilder text = new StringBuilder(HEAD);
      for (int r = 0; r < n; r++) text.append("rider season ").append(3 - r).append(" class ").append(5 + r).append(';');
      SeasonSeat x = good(text.toString(), n + 1);
      due.is("riders", x.count(0), n);
      for (int r = 0; r < 5; r++) {
        due.is("season", x.rider(r, 0), r < n ? 3 - r : -2);
        due.is("class", x.rider(r, 1), r < n ? 5 + r : -2);
        due.is("its seat", x.rider(r, 3), r < n ? r : -2);
        due.is("who sits there", x.seat(r), r < n ? r : -2);
      }
    }
    due.says("FAULTS", "4 the first TOKEN of a 5th rider");
    bad(HEAD + repeat(RIDER + ";", 4) + "^" + RIDER + ";", 4);
    bad(HEAD + repeat(RIDER + ";", 4) + "warms : rider;\n ^rider", 4);
    bad(HEAD + repeat(RIDER + ";", 4) + "^rider season 9;", 4);
    good(HEAD + repeat(RIDER + ";", 4) + "warms : rider;may : rider = 4;", 7);
  }

  private static void noLines() {
    due.says("TERMS", "{ LINE ; }");
    good(HEAD, 1);
    bad(HEAD + "^;", 2);
    bad(HEAD + RIDER + "^", 2);
    bad(HEAD + "may : 1 = 1^", 2);
    due.says("TERMS", "rider season N class N { FLAG }");
    good(HEAD + RIDER + repeat(" warm 4", 120) + ";", 2);
    bad(HEAD + RIDER + " ^season 1;", 2);
    bad(HEAD + RIDER + " ^heat 1;", 2);
  }

  private static void blanks() {
    due.says("TOKENS", "between them blanks (10, 32)");
    good("\n \n train\n\nmonth  1\n;\n", 1);
    good("train month 1;rider season 3class 9warm 4likes 0 0 0 0;warms:warmth+1;may:[1=1]and not 1=2;", 4);
    bad("^trainmonth 1;", 2);
    bad("train ^months 1;", 2);
    bad("train ^mon th 1;", 2);
    for (int b : new int[] {0, 9, 11, 12, 13, 31, 33, 127, 133, 160}) bad("train^" + (char) b + "month 1;", 1);
  }

  private static void everyByte() {
    due.says("TOKENS", "words (small letters), N, the signs ; : + - * ( ) [ ] = < >; 1 no TOKEN begins so");
    for (int b = 0; b < 256; b++) {
      boolean letter = b >= 'a' && b <= 'z';
      boolean digit = b >= '0' && b <= '9';
      boolean sign = ";:+-*()[]=<>".indexOf((char) b) >= 0;
      if (b == 10 || b == 32) good(HEAD + (char) b, 1);
      else if (b == '^') due.is("^", due.board(new SeasonSeat(), HEAD + "^"), -31);
      else bad(HEAD + "^" + (char) b, letter || digit || sign ? 2 : 1);
    }
  }

  private static void tokensGoOn() {
    due.says("TOKENS", "as long as they go on");
    bad(HEAD + "^riders season 0 class 0;", 2);
    bad(HEAD + "^ride season 0 class 0;", 2);
    bad(HEAD + RIDER + " ^warmth 1;", 2);
    bad(HEAD + "^warm : 1;", 2);
    good(HEAD + "warms : warmth;", 2);
    bad(HEAD + "warms : ^warm;", 2);
    bad(HEAD + "warms : ^warmthseat;", 2);
    bad(HEAD + RIDER + " likes ^12 3 4;", 3);
    bad(HEAD + "may : ^nota = 1;", 2);
    good(HEAD + "may : not1 = 2;", 2);
    bad(HEAD + "warms : 1 ^2;", 2);
  }

  private static void digits() {
    due.says("TOKENS", "N (1 to 3 digits); 4 digits and more: at their first");
    for (String n : new String[] {"0", "00", "000", "9", "99", "999"}) good(HEAD + "warms : " + n + ";", 2);
    for (String n : new String[] {"1000", "0000", "00001", "9999", "4294967296", "99999999999999999999"}) {
      bad(HEAD + "warms : ^" + n + ";", 1);
    }
    bad("train month ^0001;", 1);
    bad(HEAD + "rider season ^1000 class 0;", 1);
    due.is("three digits count", due.riding(HEAD + RIDER + ";warms : 999 - 996;").by(0, 0), 3);
    due.is("noughts ahead", due.riding(HEAD + RIDER + ";warms : 003;").by(0, 0), 3);
  }

  private static void theEnd() {
    due.says("FAULTS", "2 it can't stand there (the end: the text's length)");
    String text = "train month 1;rider season 0 class 0 warm 1 likes 0 0 0 0;warms : if 1 = 1 then ( 1 ) else 2 end;may : [ 1 = 1 ];";
    for (int n = 0; n <= text.length(); n++) {
      // A word that is cut is no word of the text's, so the fault is where it begins.
      int place = n;
      boolean cutWord = n > 0 && n < text.length() && Character.isLetter(text.charAt(n - 1)) && Character.isLetter(text.charAt(n));
      while (cutWord && place > 0 && Character.isLetter(text.charAt(place - 1))) place--;
      if (n > 0 && text.charAt(n - 1) == ';') good(text.substring(0, n), text.substring(0, n).split(";").length);
      else bad(text.substring(0, place) + "^" + text.substring(place, n), 2);
    }
    bad("^", 2);
    bad("  \n^", 2);
    bad("train month 1 \n ^", 2);
    bad(HEAD + "rider season 0 class 0  ^", 2);
  }

  private static void trainFirstAndOnce() {
    due.says("FAULTS", "train must be told first, and once");
    bad("^rider season 0 class 0;train month 1;", 2);
    bad("^month 1;", 2);
    bad("^;", 2);
    bad("^warms : 1;", 2);
    bad(HEAD + "^train month 1;", 2);
    bad(HEAD + RIDER + ";^train month 1;", 2);
    bad("train ^train month 1;", 2);
    bad("train ^1;", 2);
    bad("train month ^;", 2);
    bad("train month 1 ^1;", 2);
  }

  private static void namesInMay() {
    due.says("FAULTS", "2 it can't stand there (beside, heat, same in may)");
    for (String name : new String[] {"beside", "heat", "same"}) {
      good(HEAD + "warms : " + name + ";", 2);
      good(HEAD + "warms : if " + name + " = 1 then 1 else 2 end;", 2);
      bad(HEAD + "may : ^" + name + " = 1;", 2);
      bad(HEAD + "may : 1 = ^" + name + ";", 2);
      bad(HEAD + "may : if 1 = 1 then ^" + name + " else 1 end = 1;", 2);
      bad(HEAD + "warms : 1;may : not [ ( 1 + ^" + name + " ) = 1 ];", 2);
      good(HEAD + "may : 1 = 1;warms : " + name + ";", 3);
    }
    for (String name : new String[] {"rider", "season", "class", "warmth", "seat", "month"}) {
      good(HEAD + "warms : " + name + ";may : " + name + " = " + name + ";", 3);
    }
    for (String word : new String[] {"warm", "likes", "train", "warms", "may", "riders", "then", "and", "x"}) {
      bad(HEAD + "warms : ^" + word + ";", 2);
      bad(HEAD + "may : 1 = ^" + word + ";", 2);
    }
  }

  private static void lines() {
    due.says("TERMS", "LINE: rider season N class N { FLAG } | warms : SUM | may : TRUTH");
    bad(HEAD + "warms ^1;", 2);
    bad(HEAD + "may ^1 = 1;", 2);
    bad(HEAD + "warms : ^;", 2);
    bad(HEAD + "may : ^;", 2);
    bad(HEAD + "warms : 1 ^= 1;", 2);
    bad(HEAD + "may : 1^;", 2);
    bad(HEAD + "warms : 1 ^warms : 1;", 2);
    bad(HEAD + "^season 1;", 2);
    bad(HEAD + "^not 1 = 1;", 2);
  }

  private static void sums() {
    due.says("TERMS", "SUM: TERM { + TERM | - TERM }; TERM: ATOM { * ATOM }");
    good(HEAD + "warms : 1 + 2 - 3 * 4 * 5;", 2);
    bad(HEAD + "warms : ^- 1;", 2);
    bad(HEAD + "warms : ^+ 1;", 2);
    bad(HEAD + "warms : ^* 1;", 2);
    bad(HEAD + "warms : 1 +^;", 2);
    bad(HEAD + "warms : 1 - ^- 1;", 2);
    bad(HEAD + "warms : 1 * ^+ 1;", 2);
    bad(HEAD + "warms : ( 1 ^;", 2);
    bad(HEAD + "warms : ( ^);", 2);
    bad(HEAD + "warms : 1 ^);", 2);
    bad(HEAD + "warms : ( 1 ^= 1 );", 2);
    bad(HEAD + "warms : 1 ^( 1 );", 2);
    due.says("TERMS", "ATOM: if TRUTH then SUM else SUM end");
    bad(HEAD + "warms : if 1 ^then 1 else 1 end;", 2);
    bad(HEAD + "warms : if 1 = 1 ^else 1 end;", 2);
    bad(HEAD + "warms : if 1 = 1 then 1 ^end;", 2);
    bad(HEAD + "warms : if 1 = 1 then 1 else 1^;", 2);
    bad(HEAD + "warms : if 1 = 1 then ^else 1 end;", 2);
    bad(HEAD + "warms : if 1 = 1 then 1 ^= 1 else 1 end;", 2);
    bad(HEAD + "warms : if ^then 1 else 1 end;", 2);
  }

  private static void truths() {
    due.says("TERMS", "TRUTH: BOTH { or BOTH }; BOTH: UNIT { and UNIT }; UNIT: not UNIT, [ TRUTH ], or SUM, one of = < >, SUM");
    good(HEAD + "may : 1 = 1 and 1 < 2 or 2 > 1 and not [ 1 = 2 or not 2 = 2 ];", 2);
    bad(HEAD + "may : 1 = 1 ^= 1;", 2);
    bad(HEAD + "may : 1 < ^> 2;", 2);
    bad(HEAD + "may : 1 =^;", 2);
    bad(HEAD + "may : ^= 1;", 2);
    bad(HEAD + "may : 1 = 1 or^;", 2);
    bad(HEAD + "may : 1 = 1 and ^or 1 = 1;", 2);
    bad(HEAD + "may : not^;", 2);
    bad(HEAD + "may : 1 = ^not 1 = 1;", 2);
    bad(HEAD + "may : [ 1 = 1^;", 2);
    bad(HEAD + "may : [ 1 ^] = 1;", 2);
    bad(HEAD + "may : [ 1 = 1 ] ^= 1;", 2);
    bad(HEAD + "may : ( 1 ^= 1 );", 2);
    bad(HEAD + "may : [ ^];", 2);
    bad(HEAD + "may : 1 = 1 ^];", 2);
    bad(HEAD + "may : 1 = ^[ 1 = 1 ];", 2);
    bad(HEAD + "warms : ^[ 1 = 1 ];", 2);
    bad(HEAD + "warms : ^not 1 = 1;", 2);
  }

  private static void sixWithinOneAnother() {
    due.says("TERMS", "At most six of not [ ( if within one another; 4 a seventh of not [ ( if");
    good(HEAD + "warms : " + repeat("(", 6) + "1" + repeat(")", 6) + ";", 2);
    bad(HEAD + "warms : " + repeat("(", 6) + "^(1" + repeat(")", 7) + ";", 4);
    good(HEAD + "may : " + repeat("[", 6) + "1 = 1" + repeat("]", 6) + ";", 2);
    bad(HEAD + "may : " + repeat("[", 6) + "^[1 = 1" + repeat("]", 7) + ";", 4);
    good(HEAD + "may : " + repeat("not ", 6) + "1 = 1;", 2);
    bad(HEAD + "may : " + repeat("not ", 6) + "^not 1 = 1;", 4);
    good(HEAD + "warms : " + repeat("if 1 = 1 then ", 6) + "1" + repeat(" else 1 end", 6) + ";", 2);
    bad(HEAD + "warms : " + repeat("if 1 = 1 then ", 6) + "^if 1 = 1 then 1" + repeat(" else 1 end", 7) + ";", 4);
    good(HEAD + "warms : " + repeat("if 1 = 1 then 1 else ", 6) + "1" + repeat(" end", 6) + ";", 2);
    bad(HEAD + "warms : " + repeat("if 1 = 1 then 1 else ", 6) + "^if 1 = 1 then 1 else 1" + repeat(" end", 7) + ";", 4);
    good(HEAD + "warms : " + repeat("if ", 6) + "1" + repeat(" = 1 then 1 else 1 end", 6) + ";", 2);
    bad(HEAD + "warms : " + repeat("if ", 6) + "^if 1" + repeat(" = 1 then 1 else 1 end", 7) + ";", 4);
    String five = "not [ ( if not ";
    good(HEAD + "may : " + five + "[ 1 = 1 ] then 1 else 1 end ) = 1 ];", 2);
    for (String seventh : new String[] {"^not 1 = 1", "^[ 1 = 1 ]", "^( 1 ) = 1", "^if 1 = 1 then 1 else 1 end = 1", "1 = ^( 1 )",
        "1 = 1 and ^not 1 = 1", "1 = 1 or 1 < 2 * ^( 1 )"}) {
      bad(HEAD + "may : " + five + "[ " + seventh + " ] then 1 else 1 end ) = 1 ];", 4);
    }
  }

  private static void nestingIsLeft() {
    due.says("TERMS", "within one another");
    String six = repeat("(", 6) + "1" + repeat(")", 6);
    String sixNots = repeat("not ", 6) + "1 = 1";
    good(HEAD + "warms : " + six + " + " + six + " * " + six + ";", 2);
    good(HEAD + "may : " + sixNots + " and " + sixNots + " or " + sixNots + ";", 2);
    good(HEAD + "may : " + repeat("[", 6) + "1 = 1" + repeat("]", 6) + " or " + six + " = " + six + ";", 2);
    good(HEAD + "warms : if " + repeat("not ", 5) + "1 = 1 then " + repeat("(", 5) + "1" + repeat(")", 5) + " else "
        + repeat("(", 5) + "1" + repeat(")", 5) + " end + " + six + ";", 2);
    bad(HEAD + "warms : if 1 = 1 then " + repeat("(", 5) + "^" + six + ";", 4);
    good(HEAD + "warms : " + six + ";may : " + sixNots + ";warms : " + six + ";", 4);
    bad(HEAD + "may : not [ 1 = 1 ] and " + repeat("not ", 6) + "1 = ^( 1 );", 4);
  }

  private static void firstAlongTheText() {
    due.says("FAULTS", "the first along the text");
    bad("train month ^10 ; ,", 3);
    bad("train ^; month 1000", 2);
    bad("train^, month ;", 1);
    bad(HEAD + "rider season ^4 class 1000 ,;", 3);
    bad(HEAD + repeat(RIDER + ";", 4) + "^" + RIDER + " , 1000", 4);
    bad(HEAD + "warms : " + repeat("(", 6) + "^( , ;", 4);
  }

  private static void leastKind() {
    due.says("FAULTS", "of one TOKEN the least kind");
    // No token begins so, and it could not stand there either.
    bad(HEAD + "^1000;", 1);
    bad("^,", 1);
    bad(HEAD + RIDER + "^,", 1);
    // No token begins so, and it would be out of its bounds.
    bad("train month ^1000;", 1);
    // It can't stand there, and it would be out of the bounds of the number ahead of it.
    bad("train month 1 ^10;", 2);
    bad(HEAD + RIDER + " likes 0 0 0 0 ^10;", 2);
    // It can't stand there, and it would be a seventh.
    bad(HEAD + "warms : " + repeat("(", 6) + "^[ 1 = 1 ]", 2);
    bad(HEAD + "warms : " + repeat("(", 6) + "^not 1 = 1", 2);
    bad(HEAD + "may : " + repeat("[", 6) + "1 ^( 1 )", 2);
    bad(HEAD + "may : " + repeat("not ", 6) + "1 = ^[ 1 = 1 ]", 2);
    // A fifth rider's word where no line begins.
    bad(HEAD + repeat(RIDER + ";", 4).substring(0, 4 * (RIDER.length() + 1) - 1) + " ^rider season 0 class 0;", 2);
  }
}
