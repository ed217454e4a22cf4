import java.nio.file.Files;
import java.nio.file.Path;
import java.util.HashSet;
import java.util.Set;
import java.util.regex.Matcher;
import java.util.regex.Pattern;

/** The rules of LANGUAGE.md that can be seen in the class's text. */
public final class LanguageTest {
  private static int wrong = 0;

  private static void refuse(String what) {
    wrong++;
    System.out.println(what);
  }

  private static void none(String code, String pattern, String rule) {
    Matcher m = Pattern.compile(pattern, Pattern.MULTILINE).matcher(code);
    while (m.find()) refuse("rule " + rule + ": " + m.group().trim());
  }

  private static void only(String code, String pattern, Set<String> allowed, String rule) {
    Matcher m = Pattern.compile(pattern).matcher(code);
    while (m.find()) if (!allowed.contains(m.group(1))) refuse("rule " + rule + ": " + m.group());
  }

  public static void main(String[] args) throws Exception {
    String source = Files.readString(Path.of("src/main/java/SeasonSeat.java"));
    String code = source.replaceAll("(?s)/\\*.*?\\*/", "").replaceAll("//[^\n]*", "")
        .replaceAll("\"(\\\\.|[^\"\\\\])*\"", "\"\"").replaceAll("'(\\\\.|[^'\\\\])'", "' '");
    for (char c : source.toCharArray()) if (c > 126) refuse("rule 4: a sign above 126");

    Set<String> face = new HashSet<>(Set.of(Calls.NAMES));
    Set<String> shown = new HashSet<>();
    Matcher publics = Pattern.compile("public (?:int|long) (\\w+)\\(").matcher(code);
    while (publics.find()) shown.add(publics.group(1));
    if (!shown.equals(face)) refuse("rule 1: the face is " + shown);
    if (code.split("\\bpublic\\b", -1).length - 1 != face.size() + 3) refuse("rule 1: something else is public");
    none(code, "^    (?!public |private |\\}|    )\\S.*", "1");
    Matcher privates = Pattern.compile("private (?:static )?(?:final )?[\\w\\[\\]]+ (\\w+)\\(").matcher(code);
    while (privates.find()) if (face.contains(privates.group(1))) refuse("rule 1: private " + privates.group(1));

    none(code, "->|::|\\bnew \\w+\\([^;{]*\\) *\\{", "2");
    none(code, "\\b(double|float|Object|HashMap|String\\[\\])\\b", "3");
    none(code, "^import (?!java\\.util\\.Arrays;).*", "4");
    only(code, "\\bArrays\\.(\\w+)", Set.of("copyOf", "copyOfRange", "fill"), "4");
    only(code, "\\bMath\\.(\\w+)", Set.of("max", "min", "floorMod", "abs"), "4");
    none(code, "\\b(System|Integer|Long|Character|StringBuilder|Thread|Runtime)\\b", "4");
    none(code, "\\bstatic (?!final )(?!class )[\\w\\[\\]]+ \\w+ *(=|;)|static \\{", "5");
    none(code, "\\b(throw|throws|try|catch|synchronized|assert|hashCode|toString|instanceof)\\b", "6");
    none(code, "while \\(true\\)|for \\(;;\\)", "9");
    none(code, "\"\" *\\+|\\+ *\"\"", "10");
    shape(code);
    System.out.println(wrong == 0 ? "the class keeps to the rules" : wrong + " breaches");
    if (wrong != 0) System.exit(1);
  }

  private static void shape(String code) {
    int classes = code.split("\\bclass \\w+ \\{", -1).length - 1;
    if (classes > 12) refuse("rule 11: " + classes + " classes");
    Matcher heads = Pattern.compile("^( +)(?:private|public) [^;={]*\\(([^)]*)\\) \\{\n((?:(?!^\\1\\}).*\n)*)", Pattern.MULTILINE).matcher(code);
    int methods = 0;
    while (heads.find()) {
      methods++;
      if (heads.group(2).split(",").length > 7) refuse("rule 11: too many parameters: " + heads.group(2));
      if (heads.group(3).split("\n").length > 58) refuse("rule 11: a long method: " + heads.group().split("\n")[0]);
    }
    if (methods < 100) refuse("the test itself sees only " + methods + " methods");
    for (String part : code.split("\\bclass ")) {
      int fields = 0;
      for (String line : part.split("\n")) if (line.matches(" +private (?!static)[^(]*( =.*;|;)")) fields++;
      if (fields > 20) refuse("rule 11: " + fields + " fields in " + part.split("\n")[0]);
    }
  }
}
