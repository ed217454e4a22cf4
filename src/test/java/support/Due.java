/** Holds answers beside those that are due and counts the wrong ones. */
final class Due {
  private int wrong = 0;
  private int checked = 0;
  private String promise = "";

  void promise(int number, String name) { promise = "promise " + number + ", " + name; }

  /** The sentence of the document that the answers behind it hold. */
  void says(String where, String sentence) { promise = where + " says \"" + sentence + "\""; }

  void is(String call, long got, long want) {
    checked++;
    if (got != want) {
      wrong++;
      System.out.println(promise + ": " + call + " answered " + got + ", due is " + want);
    }
  }

  /** A new object with a text read. */
  SeasonSeat riding(String text) {
    SeasonSeat x = new SeasonSeat();
    board(x, text);
    return x;
  }

  int board(SeasonSeat x, String text) {
    byte[] bytes = TextMaker.bytes(text);
    for (long[] f : Calls.feeds(bytes)) Calls.call(x, "feed", f);
    return x.train(bytes.length);
  }

  /** Puts numbers into a tray of 64 bits. */
  void fill(SeasonSeat x, int tray, long... numbers) {
    is("numbers", x.numbers(tray, 3, numbers.length), 0);
    for (int i = 0; i < numbers.length; i++) is("write", x.write(tray, i, numbers[i]), numbers[i]);
  }

  void end() {
    System.out.println(checked + " answers checked, " + wrong + " wrong");
    if (wrong != 0) System.exit(1);
  }
}
