import java.util.ArrayList;
import java.util.HashMap;
import java.util.HashSet;
import java.util.List;
import java.util.Map;
import java.util.Set;

/**
 * The document's grammar as rules, walked with a set of open stacks: another way to the fault of a text than the
 * class's own reading.
 */
final class TextOracle {
  static final class Stack {
    final String top;
    final Stack rest;
    Stack(String top, Stack rest) { this.top = top; this.rest = rest; }
    int depth() {
      int depth = 0;
      for (Stack at = this; at != null; at = at.rest) if (at.top.equals("EXIT")) depth++;
      return depth;
    }
    public String toString() { return top + "|" + (rest == null ? "" : rest.toString()); }
  }

  static final class Token {
    final int place;
    final String text;
    final boolean readable;
    Token(int place, String text, boolean readable) { this.place = place; this.text = text; this.readable = readable; }
    boolean isNumber() { return readable && Character.isDigit(text.charAt(0)); }
    boolean isWord() { return readable && Character.isLowerCase(text.charAt(0)); }
  }

  private static final Map<String, String[]> RULES = new HashMap<>();
  static {
    RULES.put("TEXT", new String[] {"train month #9 ; LINES"});
    RULES.put("LINES", new String[] {"", "LINE ; LINES"});
    RULES.put("LINE", new String[] {"rider season #3 class #9 FLAGS", "warms : SUM/w", "may : TRUTH/m"});
    RULES.put("FLAGS", new String[] {"", "warm #4 FLAGS", "likes #9 #9 #9 #9 FLAGS"});
    for (String law : new String[] {"/w", "/m"}) {
      rule("SUM", law, "TERM SUMS");
      rule("SUMS", law, "", "+ TERM SUMS", "- TERM SUMS");
      rule("TERM", law, "ATOM TERMS");
      rule("TERMS", law, "", "* ATOM TERMS");
      String[] atoms = {"#999", "( SUM ) EXIT", "if TRUTH then SUM else SUM end EXIT", "rider", "season", "class",
          "warmth", "seat", "month", "beside", "heat", "same"};
      rule("ATOM", law, law.equals("/w") ? atoms : java.util.Arrays.copyOf(atoms, 9));
      rule("TRUTH", law, "BOTH TRUTHS");
      rule("TRUTHS", law, "", "or BOTH TRUTHS");
      rule("BOTH", law, "UNIT BOTHS");
      rule("BOTHS", law, "", "and UNIT BOTHS");
      rule("UNIT", law, "not UNIT EXIT", "[ TRUTH ] EXIT", "SUM = SUM", "SUM < SUM", "SUM > SUM");
    }
  }

  private static void rule(String name, String law, String... ways) {
    String[] told = new String[ways.length];
    for (int i = 0; i < ways.length; i++) {
      StringBuilder way = new StringBuilder();
      for (String part : ways[i].split(" ")) {
        boolean open = part.matches("[A-Z]+") && !part.equals("EXIT");
        way.append(part).append(open ? law : "").append(' ');
      }
      told[i] = way.toString().trim();
    }
    RULES.put(name + law, told);
  }

  static List<Token> tokens(byte[] text) {
    List<Token> all = new ArrayList<>();
    String s = new String(text, java.nio.charset.StandardCharsets.ISO_8859_1);
    java.util.regex.Matcher m = java.util.regex.Pattern.compile("[ \\n]+|[a-z]+|[0-9]+|[-;:+*()\\[\\]=<>]|.",
        java.util.regex.Pattern.DOTALL).matcher(s);
    while (m.find()) {
      String t = m.group();
      if (t.charAt(0) == ' ' || t.charAt(0) == '\n') continue;
      boolean readable = t.matches("[a-z]+|[0-9]{1,3}|[-;:+*()\\[\\]=<>]");
      all.add(new Token(m.start(), t, readable));
    }
    return all;
  }

  /** {kind, place}, {0, -1} if there is none. */
  static int[] fault(byte[] text) {
    List<Stack> open = new ArrayList<>();
    open.add(new Stack("TEXT", null));
    int riders = 0;
    for (Token token : tokens(text)) {
      if (!token.readable) return new int[] {1, token.place};
      List<Stack> matched = new ArrayList<>();
      for (Stack stack : closure(open)) if (stack != null && matches(stack.top, token)) matched.add(stack);
      if (matched.isEmpty()) return new int[] {2, token.place};
      open = new ArrayList<>();
      int least = 9;
      for (Stack stack : matched) {
        least = Math.min(least, further(stack, token, riders));
        open.add(stack.rest);
      }
      if (least != 0) return new int[] {least, token.place};
      if (token.text.equals("rider") && matched.get(0).rest.top.equals("season")) riders++;
    }
    for (Stack stack : closure(open)) if (stack == null) return new int[] {0, -1};
    return new int[] {2, text.length};
  }

  private static int further(Stack stack, Token token, int riders) {
    if (token.isNumber() && Integer.parseInt(token.text) > Integer.parseInt(stack.top.substring(1))) return 3;
    boolean nests = token.text.equals("not") || token.text.equals("[") || token.text.equals("(") || token.text.equals("if");
    // The stack still bears this token's own EXIT.
    if (nests && stack.depth() > 6) return 4;
    boolean line = token.text.equals("rider") && stack.rest != null && stack.rest.top.equals("season");
    return line && riders == 4 ? 4 : 0;
  }

  private static boolean matches(String top, Token token) {
    return top.charAt(0) == '#' ? token.isNumber() : top.equals(token.text);
  }

  private static List<Stack> closure(List<Stack> from) {
    List<Stack> done = new ArrayList<>();
    List<Stack> work = new ArrayList<>(from);
    Set<String> seen = new HashSet<>();
    while (!work.isEmpty()) {
      Stack stack = work.remove(work.size() - 1);
      if (!seen.add(String.valueOf(stack))) continue;
      if (stack == null) { done.add(null); continue; }
      if (stack.top.equals("EXIT")) { work.add(stack.rest); continue; }
      String[] ways = RULES.get(stack.top);
      if (ways == null) { done.add(stack); continue; }
      for (String way : ways) {
        Stack grown = stack.rest;
        String[] parts = way.isEmpty() ? new String[0] : way.split(" ");
        for (int i = parts.length - 1; i >= 0; i--) grown = new Stack(parts[i], grown);
        work.add(grown);
      }
    }
    return done;
  }
}
