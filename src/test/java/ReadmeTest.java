import java.nio.file.Files;
import java.nio.file.Path;
import java.util.HashSet;
import java.util.Set;
import java.util.regex.Matcher;
import java.util.regex.Pattern;

/** What README.md tells of the class: its text can be read, its calls answer so, and each call of the face is named. */
public final class ReadmeTest {
  private static final Due due = new Due();

  private static String between(String whole, String from, String to) {
    int start = whole.indexOf(from) + from.length();
    return whole.substring(start, whole.indexOf(to, start));
  }

  public static void main(String[] args) throws Exception {
    String readme = Files.readString(Path.of("README.md"));
    due.says("README", "With this text");
    String text = between(readme, "```text\n", "```");
    SeasonSeat x = new SeasonSeat();
    due.is("lines", due.board(x, text), text.split(";").length - 1);
    due.says("README", "these calls, one behind the other, answer what stands behind them");
    Matcher rows = Pattern.compile("^x\\.(\\w+)\\(([-\\d, ]*)\\); *// (-?\\d+)", Pattern.MULTILINE).matcher(readme);
    int calls = 0;
    for (; rows.find(); calls++) {
      String[] told = rows.group(2).isEmpty() ? new String[0] : rows.group(2).split(", ");
      long[] given = new long[told.length];
      for (int i = 0; i < told.length; i++) given[i] = Long.parseLong(told[i]);
      due.is(rows.group(), Calls.call(x, rows.group(1), given), Long.parseLong(rows.group(3)));
    }
    due.is("calls told", calls, readme.split("\nx\\.", -1).length - 1);
    due.is("calls there are", calls > 20 ? 1 : 0, 1);
    due.says("README", "what for, calls");
    Set<String> named = new HashSet<>();
    Matcher names = Pattern.compile("`(\\w+)`").matcher(between(readme, "| what for | calls |", "\n\n"));
    while (names.find()) named.add(names.group(1));
    due.is("each call of the face", named.equals(Set.of(Calls.NAMES)) ? 1 : 0, 1);
    due.end();
  }
}
