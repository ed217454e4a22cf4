import java.math.BigInteger;
import java.util.ArrayDeque;
import java.util.ArrayList;
import java.util.Arrays;
import java.util.Deque;
import java.util.HashMap;
import java.util.HashSet;
import java.util.List;
import java.util.Map;
import java.util.Set;
import java.util.TreeMap;

/** The document said once more, slowly and plainly, to be held beside the class. */
final class Model {
  interface Sum { long of(Ctx c); }
  interface Truth { boolean of(Ctx c); }

  static final class Ctx {
    final Map<String, Long> names = new HashMap<>();
  }

  static final class State {
    int[] season, warmth, seat;
    int month, stops;
    State copy() {
      State s = new State();
      s.season = season.clone(); s.warmth = warmth.clone(); s.seat = seat.clone();
      s.month = month; s.stops = stops;
      return s;
    }
    String key() { return Arrays.toString(warmth) + Arrays.toString(seat); }
    int least() { int l = 4; for (int w : warmth) l = Math.min(l, w); return l; }
    int sum() { int l = 0; for (int w : warmth) l += w; return l; }
    int in(int s) { for (int r = 0; r < seat.length; r++) if (seat[r] == s) return r; return -1; }
  }

  static final class Told {
    final List<int[]> riders = new ArrayList<>(); // season class warm likes*4
    int month, lines;
    Sum warms;
    Truth may;
    int n() { return riders.size(); }
  }

  private byte[] tape = new byte[0];
  private int faultKind = 0, faultPlace = -1;
  private Told told = new Told();
  private State now = first(told);
  private final Deque<State> past = new ArrayDeque<>();
  private final long[][] trays = new long[4][];
  private final int[] sorts = new int[4];
  private final Told[] imageTold = new Told[2];
  private final State[] imageState = new State[2];

  static State first(Told t) {
    State s = new State();
    int n = t.n();
    s.season = new int[n]; s.warmth = new int[n]; s.seat = new int[n];
    for (int r = 0; r < n; r++) { s.season[r] = t.riders.get(r)[0]; s.warmth[r] = t.riders.get(r)[2]; s.seat[r] = r; }
    s.month = t.month;
    return s;
  }

  // ---- reading a right text

  private List<String> tokens;
  private int at;
  private String peek() { return at < tokens.size() ? tokens.get(at) : ""; }
  private String take() { return tokens.get(at++); }
  private int number() { return Integer.parseInt(take()); }
  private boolean taken(String t) { if (peek().equals(t)) { at++; return true; } return false; }

  private Told read(byte[] text) {
    tokens = new ArrayList<>();
    for (TextOracle.Token t : TextOracle.tokens(text)) tokens.add(t.text);
    at = 2;
    Told t = new Told();
    t.month = number();
    at++;
    t.lines = 1;
    while (at < tokens.size()) {
      String word = take();
      if (word.equals("rider")) {
        at++;
        int[] r = new int[7];
        r[0] = number();
        at++;
        r[1] = number();
        r[2] = 2;
        while (!peek().equals(";")) {
          if (take().equals("warm")) r[2] = number();
          else for (int i = 0; i < 4; i++) r[3 + i] = number();
        }
        t.riders.add(r);
      } else {
        at++;
        if (word.equals("warms")) t.warms = sum(); else t.may = truth();
      }
      at++;
      t.lines++;
    }
    return t;
  }

  private static long kept(long v) { return Math.max(-1000000, Math.min(1000000, v)); }

  private Sum sum() {
    Sum a = term();
    while (true) {
      Sum left = a;
      if (taken("+")) { Sum b = term(); a = c -> kept(left.of(c) + b.of(c)); }
      else if (taken("-")) { Sum b = term(); a = c -> kept(left.of(c) - b.of(c)); }
      else return a;
    }
  }

  private Sum term() {
    Sum a = atom();
    while (taken("*")) { Sum left = a, b = atom(); a = c -> kept(left.of(c) * b.of(c)); }
    return a;
  }

  private Sum atom() {
    String t = take();
    if (Character.isDigit(t.charAt(0))) { long v = Long.parseLong(t); return c -> v; }
    if (t.equals("(")) { Sum a = sum(); at++; return a; }
    if (t.equals("if")) {
      Truth x = truth(); at++;
      Sum a = sum(); at++;
      Sum b = sum(); at++;
      return c -> x.of(c) ? a.of(c) : b.of(c);
    }
    return c -> c.names.get(t);
  }

  private Truth truth() {
    Truth a = both();
    while (taken("or")) { Truth left = a, b = both(); a = c -> left.of(c) | b.of(c); }
    return a;
  }

  private Truth both() {
    Truth a = unit();
    while (taken("and")) { Truth left = a, b = unit(); a = c -> left.of(c) & b.of(c); }
    return a;
  }

  private Truth unit() {
    if (taken("not")) { Truth a = unit(); return c -> !a.of(c); }
    if (taken("[")) { Truth a = truth(); at++; return a; }
    Sum a = sum();
    String op = take();
    Sum b = sum();
    return op.equals("=") ? c -> a.of(c) == b.of(c) : op.equals("<") ? c -> a.of(c) < b.of(c) : c -> a.of(c) > b.of(c);
  }

  // ---- stops and deeds

  private Ctx ctx(State s, int r, int seat) {
    Ctx c = new Ctx();
    c.names.put("rider", (long) r);
    c.names.put("season", (long) s.season[r]);
    c.names.put("class", (long) told.riders.get(r)[1]);
    c.names.put("warmth", (long) s.warmth[r]);
    c.names.put("seat", (long) seat);
    c.names.put("month", (long) s.month);
    return c;
  }

  int why(State s, long deed) {
    if (deed == 0) return 0;
    if (deed < 0 || deed > 3 || deed >= told.n()) return 1;
    int a = s.in((int) deed - 1), b = s.in((int) deed);
    if (told.may == null) return 0;
    return told.may.of(ctx(s, a, (int) deed)) && told.may.of(ctx(s, b, (int) deed - 1)) ? 0 : 2;
  }

  State behind(State s, int deed) {
    State t = s.copy();
    if (deed > 0) { int a = s.in(deed - 1), b = s.in(deed); t.seat[a] = deed; t.seat[b] = deed - 1; }
    for (int r = 0; r < told.n(); r++) {
      long beside = 0, heat = 0, same = 0;
      for (int o = 0; o < told.n(); o++) {
        if (Math.abs(t.seat[o] - t.seat[r]) == 1) {
          beside++; heat += s.warmth[o];
          if (s.season[o] == s.season[r]) same++;
        }
      }
      long w;
      if (told.warms == null) {
        w = s.warmth[r];
        if (heat > s.warmth[r] * beside) w++; else if (heat < s.warmth[r] * beside) w--;
      } else {
        Ctx c = ctx(s, r, t.seat[r]);
        c.names.put("beside", beside); c.names.put("heat", heat); c.names.put("same", same);
        w = told.warms.of(c);
      }
      t.warmth[r] = (int) Math.max(0, Math.min(4, w));
    }
    t.stops++;
    return t;
  }

  /** The state then, or null. */
  State deed(State s, long v, int[] why) {
    why[0] = 1;
    if (v >= 0 && v <= 3) {
      why[0] = why(s, v);
      return why[0] == 0 ? behind(s, (int) v) : null;
    }
    State t = s.copy();
    if (v >= 10 && v <= 19) {
      if (v - 10 >= told.n()) return null;
      t.warmth[(int) v - 10] = 4;
    } else if (v >= 20 && v <= 29) {
      t.month = (int) v - 20;
    } else if (v >= 100 && v <= 199) {
      int a = (int) (v - 100) / 10, b = (int) v % 10;
      if (a >= told.n() || b >= told.n() || a == b) return null;
      t.season[a] = s.season[b]; t.season[b] = s.season[a];
    } else {
      return null;
    }
    why[0] = 0;
    return t;
  }

  private void went(State to) {
    past.addLast(now);
    if (past.size() > 10) past.removeFirst();
    now = to;
  }

  private long one(long v) {
    int[] why = {0};
    State t = deed(now, v, why);
    if (t == null) return -10 - why[0];
    went(t);
    return 0;
  }

  private boolean rider(long r) { return r >= 0 && r < told.n(); }
  private static boolean warm(long k) { return k >= 0 && k <= 4; }
  private static boolean tray(long t) { return t >= 0 && t <= 3; }

  // ---- the calls

  long call(String name, long... a) {
    switch (name) {
      case "feed": return feed(a);
      case "train": return train(a[0]);
      case "fault": return a[0] == 0 ? faultKind : a[0] == 1 ? faultPlace : -1;
      case "rider": return riderCall(a[0], a[1]);
      case "seat": return rider(a[0]) ? now.in((int) a[0]) : -2;
      case "why": return why(now, a[0]);
      case "by": return !rider(a[1]) ? -2 : why(now, a[0]) != 0 ? -5 : behind(now, (int) a[0]).warmth[(int) a[1]];
      case "stop": {
        if (a[0] < 0 || a[0] > 3) return -11;
        long v = one(a[0]);
        return v != 0 ? v : now.least();
      }
      case "stops": {
        if (a[0] < 1 || a[0] > 99) return -3;
        went(idle(now, a[0]));
        return now.least();
      }
      case "give": {
        if (!rider(a[0]) || !rider(a[1]) || a[0] == a[1]) return -11;
        one(100 + a[0] * 10 + a[1]);
        return now.season[(int) a[0]];
      }
      case "rug": {
        if (!rider(a[0])) return -11;
        int had = now.warmth[(int) a[0]];
        one(10 + a[0]);
        return had;
      }
      case "month": {
        if (a[0] < 0 || a[0] > 9) return -11;
        int was = now.month;
        one(20 + a[0]);
        return was;
      }
      case "undo": {
        if (a[0] < 1 || a[0] > 10 || a[0] > past.size()) return -3;
        for (long i = 0; i < a[0]; i++) now = past.removeLast();
        return past.size();
      }
      case "judge": return judge(a[0], a[1]);
      case "perform": return perform(a[0]);
      case "journey": return journey((int) a[0], a[1]);
      default: return query(name, a);
    }
  }

  private long query(String name, long... a) {
    switch (name) {
      case "lies": return !rider(a[0]) ? -2 : a[1] < 0 || a[1] > 99999 ? -3 : idle(now, a[1]).warmth[(int) a[0]];
      case "round": return a[0] < 0 || a[0] > 1 ? -2 : round((int) a[0]);
      case "when": return !warm(a[0]) ? -3 : when(a[0]);
      case "soonest": { if (!warm(a[0])) return -3; String row = firstRow(a[0]); return row == null ? -1 : row.length(); }
      case "way": {
        if (!warm(a[0]) || a[1] < 0) return -3;
        String row = firstRow(a[0]);
        return row == null || a[1] >= row.length() ? -1 : row.charAt((int) a[1]) - '0';
      }
      case "rows": return !warm(a[0]) || a[1] < 0 || a[1] > 12 ? -3 : rows(now, a[0], (int) a[1], new HashMap<>());
      case "keeps": return !warm(a[0]) ? -3 : keeps(a[0]);
      case "most": {
        if (!rider(a[0])) return -2;
        int m = 0;
        for (State s : reach().values()) m = Math.max(m, s.warmth[(int) a[0]]);
        return m;
      }
      case "stands": return reach().size();
      case "placing": return placing(a[0], a[1]);
      case "trades": return !rider(a[0]) || a[1] < 0 || a[1] > 1 ? -2 : trade()[(int) a[1]][(int) a[0]];
      case "glad": {
        int[] ticket = trade()[0];
        int g = 0;
        for (int r = 0; r < told.n(); r++) if (likes(r, ticket[r]) > likes(r, r)) g++;
        return g;
      }
      case "seasons": { long f = feltRefused(a[0], a[1]); return f != 0 ? f : felt(a[0], (int) a[1], true); }
      case "months": { long f = feltRefused(a[0], a[1]); return f != 0 ? f : felt(a[0], (int) a[1], false); }
      case "attempt": { long f = feltRefused(a[0], a[1]); return f != 0 ? f : attempt(a[0], (int) a[1]); }
      case "forces": return !rider(a[0]) ? -2 : !warm(a[1]) ? -3 : forces((int) a[0], a[1])[0];
      case "best": return !rider(a[0]) ? -2 : !warm(a[1]) ? -3 : forces((int) a[0], a[1])[1];
      case "chance": return a[2] < 0 || a[2] > 1 ? -2 : !warm(a[0]) || a[1] < 0 || a[1] > 6 ? -3 : chance(a[0], (int) a[1], (int) a[2]);
      case "mean": return a[1] < 0 || a[1] > 1 ? -2 : a[0] < 0 || a[0] > 6 ? -3 : chance(-1, (int) a[0], (int) a[1]);
      default: return shelf(name, a);
    }
  }

  private long shelf(String name, long... a) {
    switch (name) {
      case "numbers":
        if (!tray(a[0]) || a[1] < 0 || a[1] > 3) return -2;
        if (a[2] < 0 || a[2] > 40) return -3;
        trays[(int) a[0]] = new long[(int) a[2]];
        sorts[(int) a[0]] = (int) a[1];
        return 0;
      case "write":
        if (!tray(a[0])) return -2;
        if (trays[(int) a[0]] == null) return -6;
        if (a[1] < 0 || a[1] >= trays[(int) a[0]].length) return -7;
        return put((int) a[0], (int) a[1], a[2]);
      case "lists": {
        if (!tray(a[0]) || !rider(a[1])) return -2;
        long[] t = trays[(int) a[0]];
        if (t == null) return -6;
        for (int i = 0; i < t.length; i++) put((int) a[0], i, idle(now, i + 1).warmth[(int) a[1]]);
        return t.length;
      }
      case "image":
        if (a[0] < 0 || a[0] > 1) return -2;
        imageTold[(int) a[0]] = told;
        imageState[(int) a[0]] = now.copy();
        return 0;
      case "restore":
        if (a[0] < 0 || a[0] > 1) return -2;
        if (imageTold[(int) a[0]] == null) return -5;
        told = imageTold[(int) a[0]];
        now = imageState[(int) a[0]].copy();
        past.clear();
        return 0;
      case "count": return count(a[0]);
      default: throw new IllegalArgumentException(name);
    }
  }

  private long put(int tray, int i, long v) {
    int bits = 8 << sorts[tray];
    return trays[tray][i] = v << 64 - bits >> 64 - bits;
  }

  private long count(long what) {
    if (what < 0 || what > 8) return -1;
    int elsewhere = 0;
    for (int r = 0; r < told.n(); r++) if (now.seat[r] != r) elsewhere |= 1 << r;
    return new long[] {told.n(), now.month, now.sum(), told.n() == 0 ? -1 : now.least(), elsewhere, now.stops,
        past.size(), tape.length, told.lines}[(int) what];
  }

  private long feed(long[] a) {
    if (tape.length + 20 > 900) return -5;
    byte[] more = Arrays.copyOf(tape, tape.length + 20);
    for (int i = 0; i < 20; i++) more[tape.length + i] = (byte) ((int) a[i / 4] >>> 24 - 8 * (i % 4));
    tape = more;
    return tape.length;
  }

  private long train(long n) {
    if (n < 0 || n > tape.length) return -3;
    byte[] text = Arrays.copyOf(tape, (int) n);
    tape = new byte[0];
    int[] fault = TextOracle.fault(text);
    faultKind = fault[0];
    faultPlace = fault[1];
    if (faultKind != 0) return -30 - faultKind;
    told = read(text);
    now = first(told);
    past.clear();
    return told.lines;
  }

  private long riderCall(long r, long what) {
    if (!rider(r)) return -2;
    int i = (int) r;
    if (what == 0) return now.season[i];
    if (what == 1) return told.riders.get(i)[1];
    if (what == 2) return now.warmth[i];
    if (what == 3) return now.seat[i];
    return what >= 10 && what <= 13 ? told.riders.get(i)[3 + (int) what - 10] : -2;
  }

  private long judge(long t, long what) {
    if (!tray(t) || what < 0 || what > 3) return -2;
    if (trays[(int) t] == null) return -6;
    State s = now;
    int place = -1;
    int[] why = {0};
    for (int i = 0; i < trays[(int) t].length && place < 0; i++) {
      State then = deed(s, trays[(int) t][i], why);
      if (then == null) place = i; else s = then;
    }
    return what == 0 ? place : what == 1 ? why[0] : what == 2 ? s.sum() : s.in(0);
  }

  private long perform(long t) {
    if (!tray(t)) return -2;
    if (trays[(int) t] == null) return -6;
    State s = now;
    int done = 0;
    for (long v : trays[(int) t]) {
      State then = deed(s, v, new int[1]);
      if (then == null) break;
      s = then;
      done++;
    }
    if (done > 0) went(s);
    return done;
  }

  private int x;
  private int draw(int m) { x = 1103515245 * x + 12345; return (x >>> 16) % m; }

  private long journey(int seed, long times) {
    if (times < 1 || times > 40) return -3;
    x = seed;
    State s = now;
    int done = 0;
    for (long i = 0; i < times; i++) {
      int kind = draw(6);
      long v;
      if (kind < 3) v = draw(4);
      else if (kind == 3) v = 10 + draw(4);
      else if (kind == 4) v = 20 + draw(10);
      else { int a = draw(4), b = draw(4); v = 100 + a * 10 + b; }
      State then = deed(s, v, new int[1]);
      if (then != null) { s = then; done++; }
    }
    if (done > 0) went(s);
    return done;
  }

  private State idle(State s, long n) {
    State t = s;
    for (long i = 0; i < n; i++) t = behind(t, 0);
    return t;
  }

  private long round(int what) {
    List<String> seen = new ArrayList<>();
    State s = now;
    while (!seen.contains(s.key())) { seen.add(s.key()); s = behind(s, 0); }
    int first = seen.indexOf(s.key());
    return what == 0 ? first : seen.size() - first;
  }

  private long when(long k) {
    State s = now;
    for (int i = 0; i < 700; i++) { if (s.least() >= k) return i; s = behind(s, 0); }
    return -1;
  }

  private List<State> behinds(State s) {
    List<State> all = new ArrayList<>();
    for (int d = 0; d < 4; d++) all.add(why(s, d) == 0 ? behind(s, d) : null);
    return all;
  }

  private Map<String, State> reach() {
    Map<String, State> all = new HashMap<>();
    Deque<State> work = new ArrayDeque<>();
    all.put(now.key(), now);
    work.add(now);
    while (!work.isEmpty()) {
      for (State t : behinds(work.remove())) if (t != null && all.putIfAbsent(t.key(), t) == null) work.add(t);
    }
    return all;
  }

  /** Layer by layer with the least row to each state. */
  private String firstRow(long k) {
    Set<String> seen = new HashSet<>();
    Map<String, State> layer = new HashMap<>();
    Map<String, String> row = new HashMap<>();
    layer.put(now.key(), now);
    row.put(now.key(), "");
    while (!layer.isEmpty()) {
      String best = null;
      for (State s : layer.values()) {
        String r = row.get(s.key());
        if (s.least() >= k && (best == null || r.compareTo(best) < 0)) best = r;
      }
      if (best != null) return best;
      seen.addAll(layer.keySet());
      Map<String, State> next = new HashMap<>();
      Map<String, String> nextRow = new HashMap<>();
      for (State s : layer.values()) {
        List<State> all = behinds(s);
        for (int d = 0; d < 4; d++) {
          State t = all.get(d);
          if (t == null || seen.contains(t.key())) continue;
          String r = row.get(s.key()) + d;
          if (!nextRow.containsKey(t.key()) || r.compareTo(nextRow.get(t.key())) < 0) nextRow.put(t.key(), r);
          next.put(t.key(), t);
        }
      }
      layer = next;
      row = nextRow;
    }
    return null;
  }

  private long rows(State s, long k, int n, Map<String, Long> memo) {
    if (n == 0) return s.least() >= k ? 1 : 0;
    String key = s.key() + n;
    Long known = memo.get(key);
    if (known != null) return known;
    long sum = 0;
    for (State t : behinds(s)) if (t != null) sum += rows(t, k, n - 1, memo);
    memo.put(key, sum);
    return sum;
  }

  /** The sets of states that so long rows lead to: either one is empty, or one comes again. */
  private long keeps(long k) {
    Map<String, State> at = new TreeMap<>();
    at.put(now.key(), now);
    Set<String> seen = new HashSet<>();
    for (int i = 0; ; i++) {
      if (!seen.add(at.keySet().toString())) return -1;
      Map<String, State> next = new TreeMap<>();
      for (State s : at.values()) for (State t : behinds(s)) if (t != null && t.least() >= k) next.put(t.key(), t);
      if (next.isEmpty()) return i;
      at = next;
    }
  }

  private static void orders(int n, List<Integer> part, List<int[]> all) {
    if (part.size() == n) { all.add(part.stream().mapToInt(i -> i).toArray()); return; }
    for (int s = 0; s < n; s++) {
      if (part.contains(s)) continue;
      List<Integer> more = new ArrayList<>(part);
      more.add(s);
      orders(n, more, all);
    }
  }

  private long placing(long n, long what) {
    if (what != 0 && what != 1 && !rider(what - 10)) return -2;
    if (n < 0 || n > 20) return -3;
    if (told.n() == 0) return -1;
    List<int[]> all = new ArrayList<>();
    orders(told.n(), new ArrayList<>(), all);
    State best = null;
    for (int[] order : all) {
      State s = now.copy();
      s.seat = order;
      s = idle(s, n);
      if (best == null || s.least() > best.least() || s.least() == best.least() && s.sum() > best.sum()) best = s;
    }
    return what == 0 ? best.least() : what == 1 ? best.sum() : best.seat[(int) what - 10];
  }

  private int likes(int r, int other) { return told.riders.get(r)[3 + now.season[other]]; }

  private int[][] trade() {
    int n = told.n();
    int[] ticket = new int[n], time = new int[n];
    List<Integer> left = new ArrayList<>();
    for (int r = 0; r < n; r++) left.add(r);
    for (int t = 0; !left.isEmpty(); t++) {
      Map<Integer, Integer> points = new HashMap<>();
      for (int r : left) {
        int most = -1;
        for (int o : left) most = Math.max(most, likes(r, o));
        int to = -1;
        if (likes(r, r) == most) to = r;
        for (int o : left) if (to < 0 && likes(r, o) == most) to = o;
        points.put(r, to);
      }
      // Who is still pointed to when all that nobody points to are struck, again and again, is on a ring.
      Set<Integer> ring = new HashSet<>(left);
      for (int i = 0; i < n; i++) {
        Set<Integer> pointed = new HashSet<>();
        for (int r : ring) pointed.add(points.get(r));
        ring.retainAll(pointed);
      }
      for (int r : ring) { ticket[r] = points.get(r); time[r] = t; }
      left.removeAll(ring);
    }
    return new int[][] {ticket, time};
  }

  private long feltRefused(long t, long r) {
    if (!tray(t) || !rider(r)) return -2;
    long[] felt = trays[(int) t];
    if (felt == null) return -6;
    if (felt.length < 1 || felt.length > 10) return -4;
    for (long v : felt) if (!warm(v)) return -3;
    return 0;
  }

  private long felt(long t, int r, boolean seasons) {
    long bits = 0;
    for (int v = 0; v < (seasons ? 4 : 10); v++) {
      State s = now.copy();
      if (seasons) s.season[r] = v; else s.month = v;
      boolean so = true;
      for (long w : trays[(int) t]) { s = behind(s, 0); so &= s.warmth[r] == w; }
      if (so) bits |= 1L << v;
    }
    return bits;
  }

  private long attempt(long t, int r) {
    long bits = felt(t, r, true);
    if (bits == 0) return -1;
    int best = -1, least = 99;
    for (int d = 0; d < 4; d++) {
      Map<String, Integer> groups = new HashMap<>();
      for (int v = 0; v < 4; v++) {
        if ((bits >> v & 1) == 0) continue;
        State s = now.copy();
        s.season[r] = v;
        if (why(s, d) == 0) s = behind(s, d);
        groups.merge(Arrays.toString(s.warmth), 1, Integer::sum);
      }
      int most = 0;
      for (int g : groups.values()) most = Math.max(most, g);
      if (most < least) { least = most; best = d; }
    }
    return best;
  }

  /** {within how many, by which deed}: sets of states won within 0, 1, 2 .. stops, for whoever is to move. */
  private long[] forces(int r, long k) {
    if (now.warmth[r] >= k) return new long[] {0, -1};
    Map<String, State> all = reach();
    Map<String, List<String>> next = new HashMap<>();
    Set<String> goal = new HashSet<>();
    for (State s : all.values()) {
      List<String> keys = new ArrayList<>();
      for (State t : behinds(s)) keys.add(t == null ? null : t.key());
      next.put(s.key(), keys);
      if (s.warmth[r] >= k) goal.add(s.key());
    }
    Set<String> mine = new HashSet<>(goal), theirs = new HashSet<>(goal);
    for (int n = 1; ; n++) {
      Set<String> mineNext = new HashSet<>(goal), theirsNext = new HashSet<>(goal);
      for (String key : all.keySet()) {
        boolean some = false, every = true;
        for (String t : next.get(key)) {
          if (t == null) continue;
          some |= theirs.contains(t);
          every &= mine.contains(t);
        }
        if (some) mineNext.add(key);
        if (every) theirsNext.add(key);
      }
      if (mineNext.contains(now.key())) {
        for (int d = 0; d < 4; d++) {
          String t = next.get(now.key()).get(d);
          if (t != null && theirs.contains(t)) return new long[] {n, d};
        }
      }
      if (mineNext.equals(mine) && theirsNext.equals(theirs)) return new long[] {-1, -1};
      mine = mineNext;
      theirs = theirsNext;
    }
  }

  /** Over all lots drawn; k of -1 asks for the mean. */
  private long chance(long k, int n, int what) {
    Map<String, BigInteger> times = new HashMap<>();
    Map<String, State> states = new HashMap<>();
    times.put(now.key(), BigInteger.ONE);
    states.put(now.key(), now);
    for (int i = 0; i < n; i++) {
      Map<String, BigInteger> timesNext = new HashMap<>();
      Map<String, State> statesNext = new HashMap<>();
      for (String key : times.keySet()) {
        State t = behind(states.get(key), 0);
        for (int lot = 0; lot < 10; lot++) {
          State u = t.copy();
          if (lot < told.n() && u.warmth[lot] > 0) u.warmth[lot]--;
          timesNext.merge(u.key(), times.get(key), BigInteger::add);
          statesNext.put(u.key(), u);
        }
      }
      times = timesNext;
      states = statesNext;
    }
    BigInteger above = BigInteger.ZERO, below = BigInteger.TEN.pow(n);
    for (String key : times.keySet()) {
      State s = states.get(key);
      long weight = k < 0 ? s.sum() : s.least() >= k ? 1 : 0;
      above = above.add(times.get(key).multiply(BigInteger.valueOf(weight)));
    }
    BigInteger g = above.gcd(below);
    return (what == 0 ? above : below).divide(g).longValue();
  }
}
