import java.util.Random;

/** Draws texts of carriages, right ones and spoilt ones. */
final class TextMaker {
  private final Random random;
  TextMaker(Random random) { this.random = random; }

  private static final String[] NAMES = {"rider", "season", "class", "warmth", "seat", "month", "beside", "heat", "same"};
  private static final String[] WARMS = {
      "warmth + same - 1", "heat - warmth", "if heat > warmth * beside then warmth + 1 else warmth - 1 end",
      "if warmth < 4 then warmth + 1 else 0 end", "if seat = rider then warmth + 1 else warmth - 1 end",
      "if warmth = month then heat - beside else warmth + season - 1 end", "heat - same * 2 + seat - class",
      "if [ heat = 4 ] or not same = 0 then warmth + 1 else warmth - 1 end", "warmth", "4 - warmth",
      "if seat = 0 then warmth + 1 else if heat > 3 then 0 else warmth end end",
      "if rider = 0 then if warmth = 4 then 0 else warmth + 1 end else if heat = 4 then warmth + 1 else warmth end end",
      "if season = 0 then heat else if season = 1 then warmth else if season = 2 then warmth + 1 else 3 end end end",
      "if month > warmth then warmth + season else warmth - 1 end"};
  private static final String[] MAYS = {"1 = 1", "warmth > 1", "not seat = rider", "season > 0 or seat > 1",
      "class < 5 and warmth < 4", "seat = 0 or warmth = month", "season = 0 or seat = season", "0 = 1"};

  int below(int n) { return random.nextInt(n); }

  String sum(int depth, boolean may) {
    StringBuilder b = new StringBuilder(term(depth, may));
    while (below(3) == 0) b.append(below(2) == 0 ? " + " : " - ").append(term(depth, may));
    return b.toString();
  }

  private String term(int depth, boolean may) {
    StringBuilder b = new StringBuilder(atom(depth, may));
    while (below(5) == 0) b.append(" * ").append(atom(depth, may));
    return b.toString();
  }

  private String atom(int depth, boolean may) {
    int kind = below(depth > 0 ? 8 : 5);
    if (kind < 2) return Integer.toString(below(12) == 0 ? below(1000) : below(5));
    if (kind < 5) return NAMES[below(may ? 6 : 9)];
    if (kind == 5) return "( " + sum(depth - 1, may) + " )";
    return "if " + truth(depth - 1, may) + " then " + sum(depth - 1, may) + " else " + sum(depth - 1, may) + " end";
  }

  String truth(int depth, boolean may) {
    StringBuilder b = new StringBuilder(unit(depth, may));
    while (below(4) == 0) b.append(below(2) == 0 ? " and " : " or ").append(unit(depth, may));
    return b.toString();
  }

  private String unit(int depth, boolean may) {
    int kind = below(depth > 0 ? 6 : 4);
    if (kind == 4) return "not " + unit(depth - 1, may);
    if (kind == 5) return "[ " + truth(depth - 1, may) + " ]";
    return sum(depth, may) + " " + "=<>".charAt(below(3)) + " " + sum(depth, may);
  }

  String rider() {
    StringBuilder b = new StringBuilder("rider season " + below(4) + " class " + below(10));
    while (below(3) != 0) {
      if (below(2) == 0) b.append(" warm ").append(below(5));
      else b.append(" likes ").append(below(10)).append(' ').append(below(10)).append(' ').append(below(3))
          .append(' ').append(below(10));
    }
    return b.toString();
  }

  String law(int depth) {
    switch (below(4)) {
      case 0: return "warms : " + WARMS[below(WARMS.length)];
      case 1: return "may : " + MAYS[below(MAYS.length)];
      case 2: return "warms : " + sum(depth, false);
      default: return "may : " + truth(depth, true);
    }
  }

  /** A right text of at most 900 bytes. */
  String text(int mostRiders) {
    for (int i = 0; i < 1000; i++) {
      StringBuilder b = new StringBuilder("train month " + below(10) + ";");
      int riders = below(8) == 0 ? below(mostRiders + 1) : 1 + below(mostRiders);
      int laws = below(4);
      while (riders + laws > 0) {
        boolean rider = below(riders + laws) < riders;
        b.append(rider ? rider() : law(below(4))).append(below(4) == 0 ? " ; \n" : ";");
        if (rider) riders--; else laws--;
      }
      if (b.length() <= 900 && TextOracle.fault(bytes(b.toString()))[0] == 0) return b.toString();
    }
    return "train month 0;";
  }

  /** A text with a few tokens or bytes changed. */
  String spoilt(String text) {
    StringBuilder b = new StringBuilder(text);
    String[] bits = {";", ":", "+", "-", "*", "(", ")", "[", "]", "=", "<", ">", " ", "not ", "if ", " then ", " else ",
        " end ", "rider", " same", "0", "1", "9", "99", "1000", ",", "A", "\n", "\t", "train", " warm ", " likes ",
        "\u00e9", "\u0000", " and ", " or ", "may : ", "warms : ", "((((((", "[[[[[[", "not not not not not not ", "heat "};
    int changes = 1 + below(3);
    for (int i = 0; i < changes; i++) {
      int at = below(b.length() + 1);
      switch (below(4)) {
        case 0: if (at < b.length()) b.deleteCharAt(at); break;
        case 1: b.setLength(at); break;
        case 2: if (at < b.length()) b.setCharAt(at, bits[below(bits.length)].charAt(0)); break;
        default: b.insert(at, bits[below(bits.length)]); break;
      }
    }
    if (b.length() > 900) b.setLength(900);
    return b.toString();
  }

  static byte[] bytes(String text) { return text.getBytes(java.nio.charset.StandardCharsets.ISO_8859_1); }
}
