import java.util.Arrays;

/** How strange a table is among all tables of equal margins; README.md tells how to use it. */
public final class MarginTables {
  public static final int BAD = -1, NO = -2, FULL = -3, NONE = -4;

  private static final int MOST_STRATA = 3;
  private static final int FEWEST_COLUMNS = 2;
  private static final int MOST_COLUMNS = 5;
  private static final int MOST_TOTAL = 12;
  private static final int MOST_SCORE = 9;
  private static final int MOST_ABOVE = MOST_COLUMNS * MOST_TOTAL;
  private static final int MOST_SUM = MOST_ABOVE * MOST_SCORE;
  private static final int MOST_LETTERS = 200;
  private static final int MOST_UNDONE = 6;
  private static final long MOST_WAYS = 9223372036854775807L;
  // Euclid's steps on two longs are 92 at most.
  private static final int MOST_DIVISIONS = 100;

  private static final int RARE = 0, HIGH = 1, LOW = 2;

  private static final String FIRST_TEXT = "s;c8,1,0;c7,3,1;c9,6,2;c6,5,3;s;c5,1,0;c6,4,2;";

  private final Text text;
  private final Reader reader;
  private final Past past;
  private final Joint joint;
  private final Stratum[] strata;
  private int laid;

  public MarginTables() {
    Sets sets = new Sets();
    text = new Text();
    reader = new Reader(sets);
    past = new Past();
    joint = new Joint();
    strata = new Stratum[MOST_STRATA];
    for (int s = 0; s < strata.length; s++) {
      strata[s] = new Stratum(sets);
    }
    laid = 0;
    for (int i = 0; i < FIRST_TEXT.length(); i++) {
      text.append(FIRST_TEXT.charAt(i));
    }
    takeText();
    text.clear();
  }

  // ---- told

  public int write(int letter) {
    if (letter < 32 || letter > 126) {
      return BAD;
    }
    if (text.isFull()) {
      return FULL;
    }
    text.append((char) letter);
    return text.size();
  }

  public int wipe() {
    int size = text.size();
    text.clear();
    return size;
  }

  public int fault() {
    int place = reader.faultOf(text);
    return place < 0 ? NONE : place;
  }

  public int lay() {
    return takeText() ? laid : NO;
  }

  // ---- told anew

  public int set(int s, int j, int what, int v) {
    Stratum stratum = find(s);
    if (stratum == null || !stratum.columns.has(j) || what < 0 || what > 1) {
      return BAD;
    }
    Columns columns = stratum.columns;
    int most = what == 0 ? columns.totalOf(j) : MOST_SCORE;
    if (v < 0 || v > most) {
      return BAD;
    }
    int was = what == 0 ? columns.aboveOf(j) : columns.scoreOf(j);
    if (was == v) {
      return NO;
    }
    past.keep(s, columns);
    if (what == 0) {
      columns.tellAbove(j, v);
    } else {
      columns.tellScore(j, v);
    }
    return was;
  }

  public int move(int s, int a, int b) {
    Stratum stratum = find(s);
    if (stratum == null || a == b) {
      return BAD;
    }
    Columns columns = stratum.columns;
    if (!columns.has(a) || !columns.has(b)) {
      return BAD;
    }
    if (columns.aboveOf(a) == 0 || columns.aboveOf(b) == columns.totalOf(b)) {
      return NO;
    }
    past.keep(s, columns);
    columns.tellAbove(a, columns.aboveOf(a) - 1);
    columns.tellAbove(b, columns.aboveOf(b) + 1);
    return columns.aboveOf(b);
  }

  public int turn(int s) {
    Stratum stratum = find(s);
    if (stratum == null) {
      return BAD;
    }
    Columns columns = stratum.columns;
    past.keep(s, columns);
    for (int j = 0; j < columns.size(); j++) {
      columns.tellAbove(j, columns.totalOf(j) - columns.aboveOf(j));
    }
    return columns.allAbove();
  }

  public int undo() {
    Stratum stratum = find(past.latest());
    if (stratum == null) {
      return NO;
    }
    past.giveBack(stratum.columns);
    return past.size();
  }

  // ---- strata

  public int column(int s, int j, int what) {
    Stratum stratum = find(s);
    if (stratum == null || !stratum.columns.has(j)) {
      return BAD;
    }
    switch (what) {
      case 0: return stratum.columns.totalOf(j);
      case 1: return stratum.columns.aboveOf(j);
      case 2: return stratum.columns.scoreOf(j);
      default: return BAD;
    }
  }

  public int stratum(int s, int what) {
    Stratum stratum = findFresh(s);
    if (stratum == null) {
      return BAD;
    }
    switch (what) {
      case 0: return stratum.columns.size();
      case 1: return stratum.columns.allTotal();
      case 2: return stratum.columns.allAbove();
      case 3: return stratum.columns.seenSum();
      case 4: return stratum.tableCount();
      case 5: return (int) stratum.net.at(Net.LEAST, 0, 0);
      case 6: return (int) stratum.net.at(Net.GREATEST, 0, 0);
      default: return BAD;
    }
  }

  public long ways(int s, int what) {
    Stratum stratum = findFresh(s);
    if (stratum == null) {
      return BAD;
    }
    switch (what) {
      case 0: return stratum.columns.seenWays();
      case 1: return stratum.allWays();
      case 2: return stratum.net.at(Net.LONGEST, 0, 0);
      case 3: return stratum.net.at(Net.SHORTEST, 0, 0);
      default: return BAD;
    }
  }

  // ---- chances

  public long chance(int s, int law, int part) {
    Stratum stratum = findFresh(s);
    if (stratum == null || law < RARE || law > LOW || part < 0 || part > 1) {
      return BAD;
    }
    return inLowestTerms(stratum.strangeWays(law), stratum.allWays(), part);
  }

  public long joined(int law, int part) {
    if (law < HIGH || law > LOW || part < 0 || part > 1) {
      return BAD;
    }
    long all = 1;
    int seen = 0;
    joint.clear();
    for (int s = 0; s < laid; s++) {
      Stratum stratum = findFresh(s);
      long factor = stratum == null ? 0 : stratum.allWays();
      if (stratum == null || factor < 1 || all > MOST_WAYS / factor) {
        return NONE;
      }
      all *= factor;
      seen += stratum.columns.seenSum();
      joint.add(stratum.freshSums());
    }
    return inLowestTerms(joint.waysBy(law, seen), all, part);
  }

  public int strange(int s, int law) {
    Stratum stratum = findFresh(s);
    if (stratum == null || law < RARE || law > LOW) {
      return BAD;
    }
    return stratum.strangeTables(law);
  }

  // ---- nodes

  public long node(int s, int j, int a, int what) {
    Stratum stratum = findFresh(s);
    if (stratum == null || what < Net.AHEAD || what > Net.SHORTEST) {
      return BAD;
    }
    if (j < 0 || j > stratum.columns.size() || a < 0 || a > stratum.columns.allAbove()) {
      return BAD;
    }
    return stratum.net.isThere(j, a) ? stratum.net.at(what, j, a) : NONE;
  }

  public int looks(int s, int what) {
    Stratum stratum = findFresh(s);
    if (stratum == null) {
      return BAD;
    }
    switch (what) {
      case 0: return stratum.freshRare().lookCount();
      case 1: return (int) stratum.net.at(Net.LOOKS, 0, 0);
      default: return BAD;
    }
  }

  // ---- tables

  public int table(int s, int t, int j) {
    Stratum stratum = findFresh(s);
    if (stratum == null || !stratum.columns.has(j) || t < 0 || t >= stratum.tableCount()) {
      return BAD;
    }
    return stratum.numberIn(t, j);
  }

  public int rank(int s) {
    Stratum stratum = findFresh(s);
    return stratum == null ? BAD : stratum.seenRank();
  }

  public int likeliest(int s, int j) {
    Stratum stratum = findFresh(s);
    if (stratum == null || !stratum.columns.has(j)) {
      return BAD;
    }
    return stratum.numberInLikeliest(j);
  }

  public int count(int what) {
    switch (what) {
      case 0: return laid;
      case 5: return past.size();
      case 6: return text.size();
      default: return what < 0 || what > 4 ? BAD : countInStrata(what);
    }
  }

  private int countInStrata(int what) {
    int together = 0;
    for (int s = 0; s < laid; s++) {
      Stratum stratum = find(s);
      if (stratum != null) {
        together += countInColumns(stratum.columns, what);
      }
    }
    return together;
  }

  private static int countInColumns(Columns columns, int what) {
    switch (what) {
      case 1: return columns.size();
      case 2: return columns.allTotal();
      case 3: return columns.allAbove();
      default: return columns.seenSum();
    }
  }

  private Stratum find(int s) {
    return s >= 0 && s < laid && s < strata.length ? strata[s] : null;
  }

  /** The stratum with its net worked out, for the calls that ask of it. */
  private Stratum findFresh(int s) {
    Stratum stratum = find(s);
    if (stratum != null) {
      stratum.net.refresh();
    }
    return stratum;
  }

  private boolean takeText() {
    if (reader.faultOf(text) >= 0 || !reader.canBeLaid()) {
      return false;
    }
    laid = reader.strataRead();
    for (int s = 0; s < laid; s++) {
      Stratum stratum = find(s);
      if (stratum != null) {
        stratum.columns.copyOf(reader.draft(s));
      }
    }
    past.clear();
    return true;
  }

  private static long inLowestTerms(long above, long below, int part) {
    long divisor = commonDivisor(above, below);
    if (divisor == 0) {
      return NONE;
    }
    return (part == 0 ? above : below) / divisor;
  }

  private static long commonDivisor(long a, long b) {
    long greater = a;
    long rest = b;
    for (int i = 0; i < MOST_DIVISIONS && rest != 0; i++) {
      long next = greater % rest;
      greater = rest;
      rest = next;
    }
    return greater;
  }

  /** How many sets of x there are of t. */
  private static final class Sets {
    private final long[][] rows;

    Sets() {
      rows = new long[MOST_TOTAL + 1][MOST_TOTAL + 1];
      for (int t = 0; t <= MOST_TOTAL; t++) {
        rows[t][0] = 1;
        for (int x = 1; x <= t; x++) {
          rows[t][x] = rows[t - 1][x - 1] + rows[t - 1][x];
        }
      }
    }

    long of(int t, int x) {
      return t < 0 || t > MOST_TOTAL || x < 0 || x > t ? 0 : rows[t][x];
    }
  }

  /** THE TEXT. */
  private static final class Text {
    private final char[] letters;
    private int size;

    Text() {
      letters = new char[MOST_LETTERS];
      size = 0;
    }

    int size() {
      return size;
    }

    boolean isFull() {
      return size >= letters.length;
    }

    void append(char letter) {
      if (size >= 0 && size < letters.length) {
        letters[size] = letter;
        size++;
      }
    }

    void clear() {
      size = 0;
    }

    // The sign 0 cannot be written, so it stands for no letter.
    char letterAt(int place) {
      return place >= 0 && place < size && place < letters.length ? letters[place] : (char) 0;
    }
  }

  /** Reads a text into drafts of strata, so that a text with a fault changes nothing that is laid. */
  private static final class Reader {
    private final Columns[] drafts;
    private int strataRead;
    private int place;

    Reader(Sets sets) {
      drafts = new Columns[MOST_STRATA];
      for (int s = 0; s < drafts.length; s++) {
        drafts[s] = new Columns(sets);
      }
      strataRead = 0;
      place = 0;
    }

    int strataRead() {
      return strataRead;
    }

    Columns draft(int s) {
      return s >= 0 && s < strataRead && s < drafts.length ? drafts[s] : null;
    }

    boolean canBeLaid() {
      for (int s = 0; s < strataRead; s++) {
        Columns columns = draft(s);
        if (columns == null || columns.size() < FEWEST_COLUMNS) {
          return false;
        }
      }
      return strataRead > 0;
    }

    /** The place of the first item that is not so, or -1. */
    int faultOf(Text text) {
      strataRead = 0;
      place = 0;
      for (int item = 0; item < MOST_LETTERS && place < text.size(); item++) {
        int start = place;
        if (!readItem(text)) {
          return start;
        }
      }
      return -1;
    }

    private boolean readItem(Text text) {
      if (readSign(text, 's')) {
        return readSign(text, ';') && addStratum();
      }
      if (!readSign(text, 'c')) {
        return false;
      }
      int total = readNumber(text);
      boolean isSo = readSign(text, ',');
      int above = readNumber(text);
      isSo = readSign(text, ',') && isSo;
      int score = readNumber(text);
      isSo = readSign(text, ';') && isSo;
      return isSo && addColumn(total, above, score);
    }

    private boolean readSign(Text text, char sign) {
      if (text.letterAt(place) != sign) {
        return false;
      }
      place++;
      return true;
    }

    /** A number of one or two figures, or -1. */
    private int readNumber(Text text) {
      int first = figureAt(text, place);
      if (first < 0) {
        return -1;
      }
      place++;
      int second = figureAt(text, place);
      if (second < 0) {
        return first;
      }
      place++;
      return first * 10 + second;
    }

    private static int figureAt(Text text, int place) {
      char letter = text.letterAt(place);
      return letter >= '0' && letter <= '9' ? letter - '0' : -1;
    }

    private boolean addStratum() {
      if (strataRead >= drafts.length) {
        return false;
      }
      strataRead++;
      Columns columns = draft(strataRead - 1);
      if (columns != null) {
        columns.clear();
      }
      return true;
    }

    private boolean addColumn(int total, int above, int score) {
      Columns columns = draft(strataRead - 1);
      if (columns == null || total < 1 || total > MOST_TOTAL) {
        return false;
      }
      if (above < 0 || above > total || score < 0 || score > MOST_SCORE) {
        return false;
      }
      return columns.add(total, above, score);
    }
  }

  /** The columns of a stratum, as they are told. */
  private static final class Columns {
    private final Sets sets;
    private final int[] totals;
    private final int[] aboves;
    private final int[] scores;
    private final long[][] ways;
    private int size;
    // Grows with every change, so that what is worked out from the columns knows when it is out of date.
    private int version;

    Columns(Sets sets) {
      this.sets = sets;
      totals = new int[MOST_COLUMNS];
      aboves = new int[MOST_COLUMNS];
      scores = new int[MOST_COLUMNS];
      ways = new long[MOST_COLUMNS][MOST_TOTAL + 1];
      size = 0;
      version = 1;
    }

    int size() {
      return size;
    }

    int version() {
      return version;
    }

    boolean has(int j) {
      return j >= 0 && j < size;
    }

    int totalOf(int j) {
      return j >= 0 && j < size ? totals[j] : 0;
    }

    int aboveOf(int j) {
      return j >= 0 && j < size ? aboves[j] : 0;
    }

    int scoreOf(int j) {
      return j >= 0 && j < size ? scores[j] : 0;
    }

    long waysOf(int j, int number) {
      return j >= 0 && j < size && number >= 0 && number <= MOST_TOTAL ? ways[j][number] : 0;
    }

    int allTotal() {
      int together = 0;
      for (int j = 0; j < size; j++) {
        together += totalOf(j);
      }
      return together;
    }

    int allAbove() {
      int together = 0;
      for (int j = 0; j < size; j++) {
        together += aboveOf(j);
      }
      return together;
    }

    int seenSum() {
      int together = 0;
      for (int j = 0; j < size; j++) {
        together += aboveOf(j) * scoreOf(j);
      }
      return together;
    }

    long seenWays() {
      long product = 1;
      for (int j = 0; j < size; j++) {
        product *= waysOf(j, aboveOf(j));
      }
      return product;
    }

    void clear() {
      size = 0;
      version++;
    }

    boolean add(int total, int above, int score) {
      if (size < 0 || size >= MOST_COLUMNS) {
        return false;
      }
      totals[size] = total;
      aboves[size] = above;
      scores[size] = score;
      for (int number = 0; number <= MOST_TOTAL; number++) {
        ways[size][number] = sets.of(total, number);
      }
      size++;
      version++;
      return true;
    }

    void copyOf(Columns other) {
      if (other == null) {
        return;
      }
      clear();
      for (int j = 0; j < other.size(); j++) {
        add(other.totalOf(j), other.aboveOf(j), other.scoreOf(j));
      }
    }

    void tellAbove(int j, int above) {
      if (has(j)) {
        aboves[j] = above;
        version++;
      }
    }

    void tellScore(int j, int score) {
      if (has(j)) {
        scores[j] = score;
        version++;
      }
    }
  }

  /** The strata as they were ahead of the latest changes; a row is X of each column, then each score. */
  private static final class Past {
    private final int[] whose;
    private final int[][] rows;
    private int next;
    private int size;

    Past() {
      whose = new int[MOST_UNDONE];
      rows = new int[MOST_UNDONE][2 * MOST_COLUMNS];
      next = 0;
      size = 0;
    }

    int size() {
      return size;
    }

    void clear() {
      size = 0;
    }

    void keep(int s, Columns columns) {
      if (next < 0 || next >= MOST_UNDONE) {
        return;
      }
      whose[next] = s;
      for (int j = 0; j < MOST_COLUMNS; j++) {
        rows[next][j] = columns.aboveOf(j);
        rows[next][MOST_COLUMNS + j] = columns.scoreOf(j);
      }
      next = next + 1 < MOST_UNDONE ? next + 1 : 0;
      size = Math.min(size + 1, MOST_UNDONE);
    }

    private int latestRow() {
      return next > 0 && next <= MOST_UNDONE ? next - 1 : MOST_UNDONE - 1;
    }

    /** The stratum of the latest change, or -1. */
    int latest() {
      return size > 0 ? whose[latestRow()] : -1;
    }

    void giveBack(Columns columns) {
      if (size <= 0) {
        return;
      }
      int row = latestRow();
      for (int j = 0; j < MOST_COLUMNS; j++) {
        columns.tellAbove(j, rows[row][j]);
        columns.tellScore(j, rows[row][MOST_COLUMNS + j]);
      }
      next = row;
      size--;
    }
  }

  /** One stratum's columns and what is worked out of them; its net is fresh wherever that is asked for. */
  private static final class Stratum {
    final Columns columns;
    final Net net;
    private final RareWalk rare;
    private final SumWalk sums;

    Stratum(Sets sets) {
      columns = new Columns(sets);
      net = new Net(columns);
      rare = new RareWalk(columns, net);
      sums = new SumWalk(columns, net);
    }

    RareWalk freshRare() {
      rare.refresh();
      return rare;
    }

    SumWalk freshSums() {
      sums.refresh();
      return sums;
    }

    long allWays() {
      return net.at(Net.BEHIND, 0, 0);
    }

    int tableCount() {
      return (int) net.at(Net.TABLES, 0, 0);
    }

    long strangeWays(int law) {
      return law == RARE ? freshRare().rareWays() : freshSums().waysBy(law, columns.seenSum());
    }

    int strangeTables(int law) {
      return law == RARE ? freshRare().rareTables() : freshSums().tablesBy(law, columns.seenSum());
    }

    int seenRank() {
      long tablesBefore = 0;
      int taken = 0;
      for (int j = 0; j < columns.size(); j++) {
        for (int number = 0; number < columns.aboveOf(j); number++) {
          tablesBefore += net.at(Net.TABLES, j + 1, taken + number);
        }
        taken += columns.aboveOf(j);
      }
      return (int) tablesBefore;
    }

    int numberIn(int t, int wanted) {
      long tablesBefore = t;
      int taken = 0;
      int number = 0;
      for (int j = 0; j <= wanted && j < columns.size(); j++) {
        int most = net.most(j, taken);
        for (number = net.fewest(j, taken); number < most; number++) {
          long tables = net.at(Net.TABLES, j + 1, taken + number);
          if (tablesBefore < tables) {
            break;
          }
          tablesBefore -= tables;
        }
        taken += number;
      }
      return number;
    }

    int numberInLikeliest(int wanted) {
      int taken = 0;
      int number = 0;
      for (int j = 0; j <= wanted && j < columns.size(); j++) {
        long longest = net.at(Net.LONGEST, j, taken);
        int most = net.most(j, taken);
        for (number = net.fewest(j, taken); number < most; number++) {
          if (columns.waysOf(j, number) * net.at(Net.LONGEST, j + 1, taken + number) == longest) {
            break;
          }
        }
        taken += number;
      }
      return number;
    }
  }

  /** The nodes of a stratum; whatever it tells of a node that is not there is 0. */
  private static final class Net {
    static final int AHEAD = 0, BEHIND = 1, LONGEST = 2, SHORTEST = 3;
    static final int TABLES = 4, LOOKS = 5, LEAST = 6, GREATEST = 7;
    private static final int KINDS = 8;
    private static final int WIDTH = MOST_ABOVE + 1;

    private final Columns columns;
    private final long[][] cells;
    private final int[] totalsFrom;
    private int allAbove;
    private int version;

    Net(Columns columns) {
      this.columns = columns;
      cells = new long[KINDS][(MOST_COLUMNS + 1) * WIDTH];
      totalsFrom = new int[MOST_COLUMNS + 1];
      allAbove = 0;
      version = 0;
    }

    boolean isThere(int j, int a) {
      return at(BEHIND, j, a) > 0;
    }

    long at(int kind, int j, int a) {
      if (kind < 0 || kind >= KINDS || j < 0 || j > MOST_COLUMNS || a < 0 || a >= WIDTH) {
        return 0;
      }
      return cells[kind][j * WIDTH + a];
    }

    private void put(int kind, int j, int a, long value) {
      if (kind < 0 || kind >= KINDS || j < 0 || j > MOST_COLUMNS || a < 0 || a >= WIDTH) {
        return;
      }
      cells[kind][j * WIDTH + a] = value;
    }

    /** From a node that is there the next one is there with the numbers from fewest to most, and no others. */
    int fewest(int j, int a) {
      return j >= 0 && j < MOST_COLUMNS ? Math.max(0, allAbove - a - totalsFrom[j + 1]) : 0;
    }

    int most(int j, int a) {
      return Math.min(columns.totalOf(j), allAbove - a);
    }

    void refresh() {
      if (version == columns.version()) {
        return;
      }
      version = columns.version();
      allAbove = columns.allAbove();
      for (int kind = 0; kind < KINDS; kind++) {
        Arrays.fill(cells[kind], 0);
      }
      Arrays.fill(totalsFrom, 0);
      for (int j = MOST_COLUMNS - 1; j >= 0; j--) {
        totalsFrom[j] = totalsFrom[j + 1] + columns.totalOf(j);
      }
      countBehind();
      countAhead();
    }

    private void countBehind() {
      int size = columns.size();
      put(BEHIND, size, allAbove, 1);
      put(LONGEST, size, allAbove, 1);
      put(SHORTEST, size, allAbove, 1);
      put(TABLES, size, allAbove, 1);
      for (int j = size - 1; j >= 0 && j <= MOST_COLUMNS; j--) {
        int totalAhead = totalsFrom[0] - totalsFrom[j];
        for (int a = 0; a <= totalAhead && a <= allAbove; a++) {
          if (fewest(j, a) <= most(j, a)) {
            weighBehind(j, a);
            countWalksBehind(j, a);
            sumBehind(j, a);
          }
        }
      }
    }

    private void weighBehind(int j, int a) {
      long behind = 0;
      long longest = 0;
      long shortest = MOST_WAYS;
      int most = most(j, a);
      for (int number = fewest(j, a); number <= most; number++) {
        long ways = columns.waysOf(j, number);
        behind += ways * at(BEHIND, j + 1, a + number);
        longest = Math.max(longest, ways * at(LONGEST, j + 1, a + number));
        shortest = Math.min(shortest, ways * at(SHORTEST, j + 1, a + number));
      }
      put(BEHIND, j, a, behind);
      put(LONGEST, j, a, longest);
      put(SHORTEST, j, a, shortest);
    }

    private void countWalksBehind(int j, int a) {
      long tables = 0;
      long looks = 0;
      int most = most(j, a);
      for (int number = fewest(j, a); number <= most; number++) {
        tables += at(TABLES, j + 1, a + number);
        looks += 1 + at(LOOKS, j + 1, a + number);
      }
      put(TABLES, j, a, tables);
      put(LOOKS, j, a, looks);
    }

    private void sumBehind(int j, int a) {
      long least = MOST_SUM;
      long greatest = 0;
      int most = most(j, a);
      for (int number = fewest(j, a); number <= most; number++) {
        long sum = number * columns.scoreOf(j);
        least = Math.min(least, sum + at(LEAST, j + 1, a + number));
        greatest = Math.max(greatest, sum + at(GREATEST, j + 1, a + number));
      }
      put(LEAST, j, a, least);
      put(GREATEST, j, a, greatest);
    }

    private void countAhead() {
      put(AHEAD, 0, 0, 1);
      for (int j = 1; j <= columns.size(); j++) {
        for (int a = 0; a <= allAbove; a++) {
          if (isThere(j, a)) {
            put(AHEAD, j, a, waysAhead(j, a));
          }
        }
      }
    }

    private long waysAhead(int j, int a) {
      long ahead = 0;
      for (int number = 0; number <= columns.totalOf(j - 1); number++) {
        ahead += columns.waysOf(j - 1, number) * at(AHEAD, j - 1, a - number);
      }
      return ahead;
    }
  }

  /** The walk to all rare tables, cut short by the bounds from each node on. */
  private static final class RareWalk {
    private final Columns columns;
    private final Net net;
    private long seenWays;
    private long rareWays;
    private int rareTables;
    private int lookCount;
    private int version;

    RareWalk(Columns columns, Net net) {
      this.columns = columns;
      this.net = net;
      version = 0;
    }

    long rareWays() {
      return rareWays;
    }

    int rareTables() {
      return rareTables;
    }

    int lookCount() {
      return lookCount;
    }

    void refresh() {
      if (version == columns.version()) {
        return;
      }
      version = columns.version();
      seenWays = columns.seenWays();
      rareWays = 0;
      rareTables = 0;
      lookCount = 0;
      walkFrom(0, 0, 1);
    }

    private void walkFrom(int j, int a, long ways) {
      if (!columns.has(j)) {
        return;
      }
      int most = net.most(j, a);
      for (int number = net.fewest(j, a); number <= most; number++) {
        lookAt(j + 1, a + number, ways * columns.waysOf(j, number));
      }
    }

    private void lookAt(int j, int a, long ways) {
      lookCount++;
      if (ways * net.at(Net.LONGEST, j, a) <= seenWays) {
        rareWays += ways * net.at(Net.BEHIND, j, a);
        rareTables += (int) net.at(Net.TABLES, j, a);
      } else if (ways * net.at(Net.SHORTEST, j, a) <= seenWays) {
        walkFrom(j, a, ways);
      }
    }
  }

  /** Ways and tables of a stratum by their sums. */
  private static final class SumWalk {
    private final Columns columns;
    private final Net net;
    private final long[] ways;
    private final int[] tables;
    private int least;
    private int greatest;
    private int version;

    SumWalk(Columns columns, Net net) {
      this.columns = columns;
      this.net = net;
      ways = new long[MOST_SUM + 1];
      tables = new int[MOST_SUM + 1];
      least = 0;
      greatest = 0;
      version = 0;
    }

    int least() {
      return least;
    }

    int greatest() {
      return greatest;
    }

    long waysOf(int sum) {
      return sum >= 0 && sum <= MOST_SUM ? ways[sum] : 0;
    }

    long waysBy(int law, int seen) {
      long together = 0;
      for (int sum = 0; sum <= MOST_SUM; sum++) {
        if (isStrange(law, sum, seen)) {
          together += ways[sum];
        }
      }
      return together;
    }

    int tablesBy(int law, int seen) {
      int together = 0;
      for (int sum = 0; sum <= MOST_SUM; sum++) {
        if (isStrange(law, sum, seen)) {
          together += tables[sum];
        }
      }
      return together;
    }

    static boolean isStrange(int law, int sum, int seen) {
      return law == HIGH ? sum >= seen : sum <= seen;
    }

    void refresh() {
      if (version == columns.version()) {
        return;
      }
      version = columns.version();
      least = (int) net.at(Net.LEAST, 0, 0);
      greatest = (int) net.at(Net.GREATEST, 0, 0);
      Arrays.fill(ways, 0);
      Arrays.fill(tables, 0);
      walkFrom(0, 0, 0, 1);
    }

    private void walkFrom(int j, int a, int sum, long waysSoFar) {
      int score = columns.scoreOf(j);
      int most = net.most(j, a);
      for (int number = net.fewest(j, a); number <= most; number++) {
        comeTo(j + 1, a + number, sum + number * score, waysSoFar * columns.waysOf(j, number));
      }
    }

    private void comeTo(int j, int a, int sum, long waysSoFar) {
      if (columns.has(j)) {
        walkFrom(j, a, sum, waysSoFar);
      } else {
        take(sum, waysSoFar);
      }
    }

    private void take(int sum, long waysOfTable) {
      if (sum >= 0 && sum <= MOST_SUM) {
        ways[sum] += waysOfTable;
        tables[sum]++;
      }
    }
  }

  /** Ways of all strata joined so far, by the sums of their tables together. */
  private static final class Joint {
    private final long[] ways;
    private final long[] waysAhead;
    private int greatest;

    Joint() {
      ways = new long[MOST_STRATA * MOST_SUM + 1];
      waysAhead = new long[MOST_STRATA * MOST_SUM + 1];
      greatest = 0;
    }

    void clear() {
      Arrays.fill(ways, 0);
      ways[0] = 1;
      greatest = 0;
    }

    void add(SumWalk sums) {
      if (greatest < 0 || greatest + MOST_SUM >= ways.length) {
        return;
      }
      System.arraycopy(ways, 0, waysAhead, 0, greatest + 1);
      Arrays.fill(ways, 0);
      for (int ahead = 0; ahead <= greatest; ahead++) {
        if (waysAhead[ahead] != 0) {
          spread(ahead, waysAhead[ahead], sums);
        }
      }
      greatest += sums.greatest();
    }

    private void spread(int ahead, long factor, SumWalk sums) {
      int most = sums.greatest();
      for (int sum = sums.least(); sum <= most; sum++) {
        if (ahead + sum >= 0 && ahead + sum < ways.length) {
          ways[ahead + sum] += factor * sums.waysOf(sum);
        }
      }
    }

    long waysBy(int law, int seen) {
      long together = 0;
      for (int sum = 0; sum < ways.length; sum++) {
        if (SumWalk.isStrange(law, sum, seen)) {
          together += ways[sum];
        }
      }
      return together;
    }
  }
}
