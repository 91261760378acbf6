import java.math.BigInteger;
import java.util.ArrayDeque;
import java.util.ArrayList;
import java.util.Arrays;
import java.util.Deque;
import java.util.HashMap;
import java.util.List;
import java.util.Map;
import java.util.Random;
import java.util.TreeMap;
import java.util.regex.Matcher;
import java.util.regex.Pattern;

/**
 * Long runs of calls, always the same ones, against a model that knows no net:
 * it writes down every table and goes by the words of the document alone.
 */
public final class OracleTest {
  private static final int BAD = -1, NO = -2, FULL = -3, NONE = -4;
  private static final String FIRST = "s;c8,1,0;c7,3,1;c9,6,2;c6,5,3;s;c5,1,0;c6,4,2;";
  private static final Pattern STRATUM = Pattern.compile("s;");
  private static final Pattern COLUMN = Pattern.compile("c(\\d{1,2}),(\\d{1,2}),(\\d{1,2});");

  private static long choose(int t, int x) {
    BigInteger ways = BigInteger.ONE;
    for (int i = 0; i < x; i++) {
      ways = ways.multiply(BigInteger.valueOf(t - i)).divide(BigInteger.valueOf(i + 1));
    }
    return ways.longValueExact();
  }

  private static final class Layer {
    final List<int[]> columns = new ArrayList<>();
    private List<int[]> tables = null;

    Layer copy() {
      Layer other = new Layer();
      for (int[] column : columns) {
        other.columns.add(column.clone());
      }
      return other;
    }

    int together(int what) {
      int together = 0;
      for (int[] column : columns) {
        together += column[what];
      }
      return together;
    }

    int[] seen() {
      int[] seen = new int[columns.size()];
      for (int j = 0; j < seen.length; j++) {
        seen[j] = columns.get(j)[1];
      }
      return seen;
    }

    long ways(int[] row, int from) {
      long ways = 1;
      for (int j = 0; j < row.length; j++) {
        ways *= choose(columns.get(from + j)[0], row[j]);
      }
      return ways;
    }

    int sum(int[] table) {
      int sum = 0;
      for (int j = 0; j < table.length; j++) {
        sum += table[j] * columns.get(j)[2];
      }
      return sum;
    }

    List<int[]> rows(int from, int to, int above) {
      List<int[]> rows = new ArrayList<>();
      fill(new int[to - from], 0, from, above, rows);
      return rows;
    }

    private void fill(int[] row, int at, int from, int left, List<int[]> rows) {
      if (at == row.length) {
        if (left == 0) {
          rows.add(row.clone());
        }
        return;
      }
      for (int number = 0; number <= columns.get(from + at)[0] && number <= left; number++) {
        row[at] = number;
        fill(row, at + 1, from, left - number, rows);
      }
    }

    List<int[]> tables() {
      if (tables == null) {
        tables = rows(0, columns.size(), together(1));
      }
      return tables;
    }

    boolean isStrange(int[] table, int law) {
      switch (law) {
        case 0: return ways(table, 0) <= ways(seen(), 0);
        case 1: return sum(table) >= sum(seen());
        default: return sum(table) <= sum(seen());
      }
    }

    TreeMap<Integer, BigInteger> waysBySum() {
      TreeMap<Integer, BigInteger> ways = new TreeMap<>();
      for (int[] table : tables()) {
        ways.merge(sum(table), BigInteger.valueOf(ways(table, 0)), BigInteger::add);
      }
      return ways;
    }

    final Map<Integer, long[]> nodes = new HashMap<>();

    /** AHEAD, BEHIND, LONGEST, SHORTEST, or null for a node that is not there. */
    long[] node(int j, int a) {
      return nodes.computeIfAbsent(j * 1000 + a, key -> weigh(j, a));
    }

    private long[] weigh(int j, int a) {
      List<int[]> ahead = rows(0, j, a);
      List<int[]> behind = rows(j, columns.size(), together(1) - a);
      if (together(1) < a || ahead.isEmpty() || behind.isEmpty()) {
        return new long[0];
      }
      long[] node = {0, 0, Long.MIN_VALUE, Long.MAX_VALUE};
      for (int[] row : ahead) {
        node[0] += ways(row, 0);
      }
      for (int[] row : behind) {
        long ways = ways(row, j);
        node[1] += ways;
        node[2] = Math.max(node[2], ways);
        node[3] = Math.min(node[3], ways);
      }
      return node;
    }

    int looks(int j, int a, long w, boolean always) {
      if (j == columns.size()) {
        return 0;
      }
      int looks = 0;
      for (int number = 0; number <= columns.get(j)[0]; number++) {
        long[] next = a + number > together(1) ? new long[0] : node(j + 1, a + number);
        if (next.length > 0) {
          looks++;
          long v = w * choose(columns.get(j)[0], number);
          long seen = ways(seen(), 0);
          if (always || !(v * next[2] <= seen || v * next[3] > seen)) {
            looks += looks(j + 1, a + number, v, always);
          }
        }
      }
      return looks;
    }
  }

  /** Answers each call by the document's words. */
  private static final class Model {
    String text = "";
    List<Layer> layers = new ArrayList<>();
    Deque<List<Layer>> past = new ArrayDeque<>();

    Model() {
      text = FIRST;
      lay();
      text = "";
    }

    List<Layer> read(int[] fault) {
      List<Layer> read = new ArrayList<>();
      int place = 0;
      while (place < text.length()) {
        Matcher stratum = STRATUM.matcher(text).region(place, text.length());
        Matcher column = COLUMN.matcher(text).region(place, text.length());
        if (stratum.lookingAt() && read.size() < 3) {
          read.add(new Layer());
          place = stratum.end();
        } else if (column.lookingAt() && !read.isEmpty() && take(read.get(read.size() - 1), column)) {
          place = column.end();
        } else {
          fault[0] = place;
          return null;
        }
      }
      fault[0] = NONE;
      return read;
    }

    private static boolean take(Layer layer, Matcher item) {
      int t = Integer.parseInt(item.group(1));
      int x = Integer.parseInt(item.group(2));
      int v = Integer.parseInt(item.group(3));
      if (layer.columns.size() == 5 || t < 1 || t > 12 || x > t || v > 9) {
        return false;
      }
      layer.columns.add(new int[] {t, x, v});
      return true;
    }

    int lay() {
      List<Layer> read = read(new int[1]);
      if (read == null || read.isEmpty()) {
        return NO;
      }
      for (Layer layer : read) {
        if (layer.columns.size() < 2) {
          return NO;
        }
      }
      layers = read;
      past.clear();
      return read.size();
    }

    Layer layer(int s) {
      return s < 0 || s >= layers.size() ? null : layers.get(s);
    }

    int[] column(int s, int j) {
      Layer layer = layer(s);
      return layer == null || j < 0 || j >= layer.columns.size() ? null : layer.columns.get(j);
    }

    void change(int s) {
      past.push(layers);
      if (past.size() > 6) {
        past.removeLast();
      }
      layers = new ArrayList<>(layers);
      layers.set(s, layers.get(s).copy());
    }

    long call(String name, int[] n) {
      switch (name) {
        case "write": return write(n[0]);
        case "wipe": {
          int length = text.length();
          text = "";
          return length;
        }
        case "fault": {
          int[] fault = new int[1];
          read(fault);
          return fault[0];
        }
        case "lay": return lay();
        case "set": return tell(n[0], n[1], n[2], n[3]);
        case "move": return shift(n[0], n[1], n[2]);
        case "turn": return upsideDown(n[0]);
        case "undo": {
          if (past.isEmpty()) {
            return NO;
          }
          layers = past.pop();
          return past.size();
        }
        case "column": {
          int[] column = column(n[0], n[1]);
          return column == null || n[2] < 0 || n[2] > 2 ? BAD : column[n[2]];
        }
        case "stratum": return layer(n[0]) == null || n[1] < 0 || n[1] > 6 ? BAD : ofStratum(layer(n[0]), n[1]);
        case "ways": return layer(n[0]) == null || n[1] < 0 || n[1] > 3 ? BAD : waysOf(layer(n[0]), n[1]);
        default: return callRest(name, n);
      }
    }

    long callRest(String name, int[] n) {
      Layer layer = layer(n[0]);
      switch (name) {
        case "chance":
          return layer == null || n[1] < 0 || n[1] > 2 || n[2] < 0 || n[2] > 1 ? BAD : chance(layer, n[1], n[2]);
        case "joined": return n[0] < 1 || n[0] > 2 || n[1] < 0 || n[1] > 1 ? BAD : joined(n[0], n[1]);
        case "strange": return layer == null || n[1] < 0 || n[1] > 2 ? BAD : strange(layer, n[1]);
        case "node": {
          if (layer == null || n[1] < 0 || n[1] > layer.columns.size() || n[2] < 0 || n[2] > layer.together(1)
              || n[3] < 0 || n[3] > 3) {
            return BAD;
          }
          long[] node = layer.node(n[1], n[2]);
          return node.length == 0 ? NONE : node[n[3]];
        }
        case "looks": return layer == null || n[1] < 0 || n[1] > 1 ? BAD : layer.looks(0, 0, 1, n[1] == 1);
        case "table":
          return column(n[0], n[2]) == null || n[1] < 0 || n[1] >= layer.tables().size() ? BAD
              : layer.tables().get(n[1])[n[2]];
        case "rank": {
          for (int t = 0; layer != null && t < layer.tables().size(); t++) {
            if (Arrays.equals(layer.tables().get(t), layer.seen())) {
              return t;
            }
          }
          return BAD;
        }
        case "likeliest": return column(n[0], n[1]) == null ? BAD : likeliest(layer)[n[1]];
        default: return howMany(n[0]);
      }
    }

    long write(int letter) {
      if (letter < 32 || letter > 126) {
        return BAD;
      }
      if (text.length() == 200) {
        return FULL;
      }
      text += (char) letter;
      return text.length();
    }

    long tell(int s, int j, int what, int v) {
      int[] column = column(s, j);
      if (column == null || what < 0 || what > 1 || v < 0 || v > (what == 0 ? column[0] : 9)) {
        return BAD;
      }
      int was = column[what + 1];
      if (was == v) {
        return NO;
      }
      change(s);
      column(s, j)[what + 1] = v;
      return was;
    }

    long shift(int s, int a, int b) {
      if (column(s, a) == null || column(s, b) == null || a == b) {
        return BAD;
      }
      if (column(s, a)[1] == 0 || column(s, b)[1] == column(s, b)[0]) {
        return NO;
      }
      change(s);
      column(s, a)[1]--;
      return ++column(s, b)[1];
    }

    long upsideDown(int s) {
      if (layer(s) == null) {
        return BAD;
      }
      change(s);
      for (int[] column : layer(s).columns) {
        column[1] = column[0] - column[1];
      }
      return layer(s).together(1);
    }

    static long ofStratum(Layer layer, int what) {
      switch (what) {
        case 0: return layer.columns.size();
        case 1: return layer.together(0);
        case 2: return layer.together(1);
        case 3: return layer.sum(layer.seen());
        case 4: return layer.tables().size();
        default: {
          long least = Long.MAX_VALUE;
          long greatest = Long.MIN_VALUE;
          for (int[] table : layer.tables()) {
            least = Math.min(least, layer.sum(table));
            greatest = Math.max(greatest, layer.sum(table));
          }
          return what == 5 ? least : greatest;
        }
      }
    }

    static long waysOf(Layer layer, int what) {
      if (what == 0) {
        return layer.ways(layer.seen(), 0);
      }
      long all = 0;
      long most = Long.MIN_VALUE;
      long fewest = Long.MAX_VALUE;
      for (int[] table : layer.tables()) {
        long ways = layer.ways(table, 0);
        all += ways;
        most = Math.max(most, ways);
        fewest = Math.min(fewest, ways);
      }
      return what == 1 ? all : what == 2 ? most : fewest;
    }

    static long chance(Layer layer, int law, int part) {
      BigInteger strange = BigInteger.ZERO;
      for (int[] table : layer.tables()) {
        if (layer.isStrange(table, law)) {
          strange = strange.add(BigInteger.valueOf(layer.ways(table, 0)));
        }
      }
      return lowest(strange, BigInteger.valueOf(waysOf(layer, 1)), part);
    }

    static long lowest(BigInteger above, BigInteger below, int part) {
      return (part == 0 ? above : below).divide(above.gcd(below)).longValueExact();
    }

    static long strange(Layer layer, int law) {
      long strange = 0;
      for (int[] table : layer.tables()) {
        strange += layer.isStrange(table, law) ? 1 : 0;
      }
      return strange;
    }

    long joined(int law, int part) {
      TreeMap<Integer, BigInteger> ways = new TreeMap<>();
      ways.put(0, BigInteger.ONE);
      BigInteger all = BigInteger.ONE;
      int seen = 0;
      for (Layer layer : layers) {
        TreeMap<Integer, BigInteger> next = new TreeMap<>();
        TreeMap<Integer, BigInteger> more = layer.waysBySum();
        ways.forEach((u, w) -> more.forEach((v, m) -> next.merge(u + v, w.multiply(m), BigInteger::add)));
        ways = next;
        all = all.multiply(BigInteger.valueOf(waysOf(layer, 1)));
        seen += layer.sum(layer.seen());
      }
      if (all.compareTo(BigInteger.valueOf(Long.MAX_VALUE)) > 0) {
        return NONE;
      }
      BigInteger strange = BigInteger.ZERO;
      for (Map.Entry<Integer, BigInteger> entry : ways.entrySet()) {
        if (law == 1 ? entry.getKey() >= seen : entry.getKey() <= seen) {
          strange = strange.add(entry.getValue());
        }
      }
      return lowest(strange, all, part);
    }

    static int[] likeliest(Layer layer) {
      int[] best = null;
      for (int[] table : layer.tables()) {
        if (best == null || layer.ways(table, 0) > layer.ways(best, 0)) {
          best = table;
        }
      }
      return best;
    }

    long howMany(int what) {
      int[] many = {layers.size(), 0, 0, 0, 0, past.size(), text.length()};
      for (Layer layer : layers) {
        many[1] += layer.columns.size();
        many[2] += layer.together(0);
        many[3] += layer.together(1);
        many[4] += layer.sum(layer.seen());
      }
      return what < 0 || what > 6 ? BAD : many[what];
    }
  }

  private static long call(MarginTables x, String name, int[] n) {
    switch (name) {
      case "write": return x.write(n[0]);
      case "wipe": return x.wipe();
      case "fault": return x.fault();
      case "lay": return x.lay();
      case "set": return x.set(n[0], n[1], n[2], n[3]);
      case "move": return x.move(n[0], n[1], n[2]);
      case "turn": return x.turn(n[0]);
      case "undo": return x.undo();
      case "column": return x.column(n[0], n[1], n[2]);
      case "stratum": return x.stratum(n[0], n[1]);
      case "ways": return x.ways(n[0], n[1]);
      case "chance": return x.chance(n[0], n[1], n[2]);
      case "joined": return x.joined(n[0], n[1]);
      case "strange": return x.strange(n[0], n[1]);
      case "node": return x.node(n[0], n[1], n[2], n[3]);
      case "looks": return x.looks(n[0], n[1]);
      case "table": return x.table(n[0], n[1], n[2]);
      case "rank": return x.rank(n[0]);
      case "likeliest": return x.likeliest(n[0], n[1]);
      default: return x.count(n[0]);
    }
  }

  // One name a call; a change comes more often than a single one of the others.
  private static final String[] NAMES = {"set", "set", "set", "move", "move", "move", "turn", "undo", "undo",
    "column", "stratum", "ways", "chance", "chance", "joined", "strange", "node", "node", "looks", "table",
    "rank", "likeliest", "count", "fault", "lay", "write", "wipe"};

  private static int wrong = 0;
  private static long answered = 0;

  private static void ask(MarginTables x, Model model, String run, String name, int... n) {
    int[] four = Arrays.copyOf(n, 4);
    long got = call(x, name, four);
    long want = model.call(name, four);
    answered++;
    if (got != want) {
      wrong++;
      if (wrong <= 20) {
        System.out.println(run + ": " + name + Arrays.toString(four) + " answered " + got + ", due is " + want);
      }
    }
  }

  private static String randomText(Random random, int mostTotal) {
    StringBuilder text = new StringBuilder();
    int strata = 1 + random.nextInt(3);
    for (int s = 0; s < strata; s++) {
      text.append("s;");
      int columns = 2 + random.nextInt(4);
      for (int j = 0; j < columns; j++) {
        int t = 1 + random.nextInt(mostTotal);
        text.append('c').append(t).append(',').append(random.nextInt(t + 1)).append(',');
        text.append(random.nextInt(10)).append(';');
      }
    }
    if (random.nextInt(3) == 0) {
      spoil(random, text);
    }
    return text.toString();
  }

  private static void spoil(Random random, StringBuilder text) {
    int at = random.nextInt(text.length());
    String letters = "sc;,0123456789 x";
    char letter = letters.charAt(random.nextInt(letters.length()));
    switch (random.nextInt(3)) {
      case 0: text.setCharAt(at, letter); break;
      case 1: text.insert(at, letter); break;
      default: text.deleteCharAt(at); break;
    }
  }

  private static int near(Random random, int most) {
    return random.nextInt(40) == 0 ? random.nextInt() : random.nextInt(most + 2) - (random.nextInt(8) == 0 ? 1 : 0);
  }

  private static int[] arguments(Random random, MarginTables x, String name) {
    int s = near(random, x.count(0) - 1);
    int columns = Math.max(0, x.stratum(s, 0));
    int j = near(random, columns);
    switch (name) {
      case "set": return new int[] {s, j, near(random, 1), near(random, 12)};
      case "move": return new int[] {s, j, near(random, columns)};
      case "column": return new int[] {s, j, near(random, 2)};
      case "stratum": return new int[] {s, near(random, 6)};
      case "ways": return new int[] {s, near(random, 3)};
      case "chance": return new int[] {s, near(random, 2), near(random, 1)};
      case "joined": return new int[] {near(random, 2), near(random, 1)};
      case "strange": return new int[] {s, near(random, 2)};
      case "node": return new int[] {s, j, near(random, Math.max(0, x.stratum(s, 2))), near(random, 3)};
      case "looks": return new int[] {s, near(random, 1)};
      case "table": return new int[] {s, near(random, Math.max(0, x.stratum(s, 4))), near(random, columns)};
      case "turn": case "rank": return new int[] {s};
      case "likeliest": return new int[] {s, near(random, columns)};
      case "count": return new int[] {near(random, 6)};
      case "write": return new int[] {random.nextInt(4) == 0 ? random.nextInt(140) : 59};
      default: return new int[0];
    }
  }

  private static void tell(MarginTables x, Model model, String run, String text) {
    ask(x, model, run, "wipe");
    for (int i = 0; i < text.length(); i++) {
      ask(x, model, run, "write", text.charAt(i));
    }
    ask(x, model, run, "fault");
    ask(x, model, run, "lay");
  }

  private static void run(int seed, int mostTotal, int calls) {
    Random random = new Random(seed);
    MarginTables x = new MarginTables();
    Model model = new Model();
    String run = "run " + seed;
    tell(x, model, run, randomText(random, mostTotal));
    for (int i = 0; i < calls; i++) {
      String name = NAMES[random.nextInt(NAMES.length)];
      if (name.equals("wipe") && random.nextInt(4) == 0) {
        tell(x, model, run, randomText(random, mostTotal));
      } else {
        ask(x, model, run, name, arguments(random, x, name));
      }
    }
  }

  /** Everything that can be asked of what is laid. */
  private static void askAll(MarginTables x, Model model, String run) {
    for (int s = 0; s < x.count(0); s++) {
      int columns = x.stratum(s, 0);
      for (int what = 0; what < 7; what++) {
        ask(x, model, run, "stratum", s, what);
        ask(x, model, run, "ways", s, what);
        ask(x, model, run, "looks", s, what);
        ask(x, model, run, "strange", s, what);
        ask(x, model, run, "chance", s, what, 0);
        ask(x, model, run, "chance", s, what, 1);
        ask(x, model, run, "likeliest", s, what);
        ask(x, model, run, "joined", what, s);
        ask(x, model, run, "count", what);
      }
      ask(x, model, run, "rank", s);
      for (int j = 0; j <= columns; j++) {
        for (int a = 0; a <= x.stratum(s, 2); a++) {
          for (int what = 0; what < 4; what++) {
            ask(x, model, run, "node", s, j, a, what);
          }
        }
        for (int t = 0; t <= x.stratum(s, 4); t += 1 + t / 20) {
          ask(x, model, run, "table", s, t, j);
        }
      }
    }
  }

  private static void runAll(String text) {
    MarginTables x = new MarginTables();
    Model model = new Model();
    tell(x, model, text, text);
    askAll(x, model, text);
  }

  public static void main(String[] args) {
    for (int seed = 0; seed < 400; seed++) {
      run(seed, 5, 300);
    }
    for (int seed = 1000; seed < 1040; seed++) {
      run(seed, 12, 40);
    }
    Random random = new Random(7);
    for (int i = 0; i < 60; i++) {
      runAll(randomText(random, 6));
    }
    runAll("s;c12,6,0;c12,6,1;c12,6,2;c12,6,3;c12,6,9;");
    runAll("s;c12,12,9;c12,12,9;c12,12,9;c12,12,9;c12,12,9;s;c12,0,9;c12,0,9;c12,1,9;s;c1,1,9;c1,0,9;");
    System.out.println(answered + " calls, " + wrong + " answers are not as due");
    if (wrong != 0) {
      System.exit(1);
    }
  }
}
