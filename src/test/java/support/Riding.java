/** Objects in which something of each kind stands, made alike each time. */
final class Riding {
  /** Three riders; rider 2 may not go to seat 1, so that a change of seats 1 and 2 is against the law. */
  static final String TEXT = "train month 3;rider season 0 class 1 warm 4 likes 0 0 9 5;rider season 2 class 2 warm 1 likes 9 0 1 0;"
      + "rider season 3 class 1 likes 3 3 3 3;warms : if same > 0 then warmth + 1 else heat - month end;"
      + "may : not [ rider = 2 and seat = 1 ];";

  /** Calls to be undone, an image, trays with deeds, with warmths and without numbers, a missing one, a text on the tape, a fault. */
  static SeasonSeat busy() {
    Due due = new Due();
    SeasonSeat x = due.riding(TEXT);
    x.stop(1);
    x.rug(2);
    x.image(0);
    x.give(0, 1);
    x.month(2);
    due.fill(x, 0, 1, 12, 25, 3);
    x.numbers(1, 0, 2);
    x.write(1, 0, 2);
    x.write(1, 1, 3);
    x.numbers(2, 1, 0);
    due.board(x, "train month 3;rider season 9");
    for (long[] f : Calls.feeds(TextMaker.bytes("train month 6;rider season 1 class 2;"))) Calls.call(x, "feed", f);
    return x;
  }
}
