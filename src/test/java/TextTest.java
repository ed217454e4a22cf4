import java.util.Random;

/** Texts, right and spoilt: the faults of promise 3 and 4 held beside the grammar's rules. */
public final class TextTest {
  private static int wrong = 0;

  private static void check(String text) {
    byte[] bytes = TextMaker.bytes(text);
    SeasonSeat x = new SeasonSeat();
    for (long[] f : Calls.feeds(bytes)) Calls.call(x, "feed", f);
    int answer = x.train(bytes.length);
    int[] due = TextOracle.fault(bytes);
    boolean right = x.fault(0) == due[0] && x.fault(1) == due[1] && (due[0] == 0 ? answer > 0 : answer == -30 - due[0]);
    if (!right) {
      wrong++;
      System.out.println("fault " + x.fault(0) + " at " + x.fault(1) + " (" + answer + "), due is " + due[0] + " at " + due[1] + ": " + text);
    }
  }

  private static String repeat(String part, int times) {
    StringBuilder b = new StringBuilder();
    for (int i = 0; i < times; i++) b.append(part);
    return b.toString();
  }

  public static void main(String[] args) {
    int texts = args.length > 0 ? Integer.parseInt(args[0]) : 1200;
    Random random = new Random(42);
    TextMaker maker = new TextMaker(random);
    int[] kinds = new int[5];
    for (int i = 0; i < texts && wrong < 10; i++) {
      String text = maker.text(4);
      check(text);
      for (int j = 0; j < 4; j++) {
        String spoilt = maker.spoilt(text);
        kinds[TextOracle.fault(TextMaker.bytes(spoilt))[0]]++;
        check(spoilt);
      }
      for (int cut = 0; cut < text.length() && i % 100 == 0; cut++) check(text.substring(0, cut));
    }
    String head = "train month 1;";
    String[] edges = {"", " ", "\n\n", head, head + " \n", " train\nmonth 9 ; ", "train month 009;", "train month 0009;", "train month 10;",
        "trainmonth 1;", "train month1;", "train month 1;;", head + "rider season 0 class 0 warm;", head + "rider season 0 class 0 likes 9 9 9 9 9;",
        head + "rider season 3class 9warm 4likes 0 0 0 0;", head + "warms : 999;", head + "warms : 1000;", head + "warms : 0 1;",
        head + "warms : not 1 = 1;", head + "warms : [ 1 = 1 ];", head + "may : [ 1 ] = 1;", head + "may : ( 1 = 1 );", head + "may : ( 1 ) = 1;",
        head + "may : beside = 1;", head + "may : 1 = same;", head + "may : if heat = 1 then 1 else 1 end = 1;", head + "may : 1 = 1 = 1;",
        head + "warms : " + repeat("(", 6) + "1" + repeat(")", 6) + ";", head + "warms : " + repeat("(", 7) + "1" + repeat(")", 7) + ";",
        head + "warms : " + repeat("(", 6) + "[;", head + "warms : " + repeat("(", 6) + "not 1 = 1;",
        head + "may : " + repeat("not ", 6) + "1 = 1;", head + "may : " + repeat("not ", 6) + "1 = (1);", head + "may : " + repeat("not ", 6) + "1 = 1 and not 1 = 1;",
        head + "may : " + repeat("[", 3) + repeat("not ", 3) + "if 1 = 1 then 1 else 1 end = 1" + repeat("]", 3) + ";",
        head + repeat("rider season 0 class 0;", 4), head + repeat("rider season 0 class 0;", 5), head + repeat("rider season 0 class 0;", 4) + "rider x",
        head + repeat("rider season 0 class 0;", 4) + "warms : rider;", head + repeat("may:1=1;", 110), head + "warms:" + repeat("1+", 439) + "1;",
        head + "warms:" + repeat("1*(", 6) + "1" + repeat(")", 6) + ";"};
    for (String edge : edges) check(edge);
    System.out.println(texts + " texts, of the spoilt ones by fault: " + java.util.Arrays.toString(kinds) + ", wrong: " + wrong);
    if (wrong != 0) System.exit(1);
  }
}
