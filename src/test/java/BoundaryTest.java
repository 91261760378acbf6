import java.io.IOException;
import java.nio.file.Files;
import java.nio.file.Path;
import java.util.ArrayList;
import java.util.LinkedHashMap;
import java.util.List;
import java.util.Map;

/**
 * Each sentence of ../shared/DOC.md at its boundaries: too small, too large, empty, full, a wrap-around, a
 * refused call. A test names the promises and, word by word, the sentence. At the end no sentence of the
 * document may be left without a test, and none may be named that does not stand there. The lines of the
 * public face and the heads of the interface are LanguageTest's.
 */
public final class BoundaryTest {
  private static final Path DOCUMENT = Path.of("../shared/DOC.md");
  private static final int BAD = MarginTables.BAD;
  private static final int NO = MarginTables.NO;
  private static final int FULL = MarginTables.FULL;
  private static final int NONE = MarginTables.NONE;

  // Tables: (0, 2) of 1 way and sum 2, (1, 1) of 4 ways and sum 1, seen, (2, 0) of 1 way and sum 0.
  private static final String SMALL = "s;c2,1,0;c2,1,1;";
  // Tables with their ways and sums: (0, 0, 3) 1, 9; (0, 1, 2) 6, 7; (0, 2, 1) 3, 5; (1, 0, 2) 6, 6, seen;
  // (1, 1, 1) 12, 4; (1, 2, 0) 2, 2; (2, 0, 1) 3, 3; (2, 1, 0) 2, 1.
  private static final String MIDDLE = "s;c2,1,0;c2,0,1;c3,2,3;";
  private static final String LEAST = "s;c1,0,0;c1,0,0;";
  private static final String NONE_ABOVE = "s;c3,0,9;c4,0,9;";
  private static final String ALL_ABOVE = "s;c3,3,9;c4,4,9;";
  private static final String WIDEST = "s;c12,6,0;c12,6,0;c12,6,0;c12,6,0;c12,6,0;";
  private static final String HIGHEST = "s;c12,12,9;c12,12,9;c12,12,9;c12,12,9;c12,12,9;";
  private static final long WIDEST_ALL = 118264581564861424L;

  // Beyond whatever a number may be; cut to 8 or 16 bits, or made a place in a row, some would be one that is told.
  private static final int[] FAR = {-1, -2, -61, -256, -65536, 61, 256, 257, 65536, 65537, 1 << 30, 1000000,
    Integer.MIN_VALUE, Integer.MIN_VALUE + 1, Integer.MAX_VALUE};

  private static final Map<String, List<String>> NAMED = new LinkedHashMap<>();
  private static String told = "";
  private static int asked = 1;
  private static int wrong = 0;

  // ---- what a test is told by

  private static void says(String place, String promises, String sentence) {
    if (asked == 0) {
      fault("no call for " + told);
    }
    NAMED.computeIfAbsent(place, key -> new ArrayList<>()).add(sentence);
    told = place + " (promise " + promises + "): \"" + sentence + "\"";
    asked = 0;
  }

  private static void terms(String promises, String sentence) {
    says("Terms", promises, sentence);
  }

  private static void promise(int number, String sentence) {
    says("Promise " + number, Integer.toString(number), sentence);
  }

  /** A sentence that leaves something free: nothing is due, but it must still stand there. */
  private static void free(String sentence) {
    says("Not promised", "none", sentence);
    asked++;
  }

  private static void fault(String text) {
    wrong++;
    System.out.println(text);
  }

  private static void due(String call, long got, long want) {
    asked++;
    if (got != want) {
      fault(told + ": " + call + " answered " + got + ", due is " + want);
    }
  }

  private static void tell(MarginTables x, String text) {
    for (int i = 0; i < text.length(); i++) {
      x.write(text.charAt(i));
    }
  }

  private static MarginTables laid(String text) {
    MarginTables x = new MarginTables();
    tell(x, text);
    if (x.lay() < 0) {
      fault("not laid: " + text);
    }
    return x;
  }

  private static void dueFault(String text, int want) {
    MarginTables x = new MarginTables();
    tell(x, text);
    due("fault() of " + text, x.fault(), want);
  }

  private static void dueLaid(String text, int want) {
    MarginTables x = new MarginTables();
    tell(x, text);
    due("lay() of " + text, x.lay(), want);
  }

  private static void dueColumn(MarginTables x, int s, int j, int total, int above, int score) {
    due("column(" + s + ", " + j + ", 0)", x.column(s, j, 0), total);
    due("column(" + s + ", " + j + ", 1)", x.column(s, j, 1), above);
    due("column(" + s + ", " + j + ", 2)", x.column(s, j, 2), score);
  }

  private static void dueChance(MarginTables x, int s, int law, long above, long below) {
    due("chance(" + s + ", " + law + ", 0)", x.chance(s, law, 0), above);
    due("chance(" + s + ", " + law + ", 1)", x.chance(s, law, 1), below);
  }

  private static void dueJoined(MarginTables x, int law, long above, long below) {
    due("joined(" + law + ", 0)", x.joined(law, 0), above);
    due("joined(" + law + ", 1)", x.joined(law, 1), below);
  }

  private static void dueNode(MarginTables x, int j, int a, long... want) {
    for (int what = 0; what < 4; what++) {
      due("node(0, " + j + ", " + a + ", " + what + ")", x.node(0, j, a, what), want[want.length == 1 ? 0 : what]);
    }
  }

  // ---- What it is, and what is free

  private static void overview() {
    says("What it is", "1 to 21", "How strange a table is among all tables of equal margins: "
        + "strata of columns, each with so many in all, so many of them above; "
        + "all ways to have as many above in all, walked column by column through a net of nodes; "
        + "ways of each table, the most, the fewest, chances of what is as strange as what was seen, "
        + "by ways or by scores, exactly; strata joined; bounds from each node on by which a walk is cut short, "
        + "how many looks that takes; tables by number and back; one moved from column to column, "
        + "all turned upside down, undone; told in a text with the first fault.");
    MarginTables x = new MarginTables();
    tell(x, "s;c2,2,0;c3,1,1;s;c2,0;");
    due("fault()", x.fault(), 18);
    due("wipe()", x.wipe(), 23);
    tell(x, "s;c2,2,0;c3,1,1;" + SMALL);
    due("fault()", x.fault(), NONE);
    due("lay()", x.lay(), 2);
    // Stratum 0, its tables with their ways and sums: (0, 3) 1, 3; (1, 2) 6, 2; (2, 1) 3, 1, seen.
    dueColumn(x, 0, 1, 3, 1, 1);
    due("stratum(0, 4)", x.stratum(0, 4), 3);
    long[] ways = {3, 10, 6, 1};
    for (int what = 0; what < 4; what++) {
      due("ways(0, " + what + ")", x.ways(0, what), ways[what]);
    }
    dueNode(x, 1, 0, 1, 1, 1, 1);
    dueNode(x, 1, 1, 2, 3, 3, 3);
    dueNode(x, 1, 2, 1, 3, 3, 3);
    due("looks(0, 0)", x.looks(0, 0), 3);
    due("looks(0, 1)", x.looks(0, 1), 6);
    dueChance(x, 0, 0, 2, 5);
    dueChance(x, 0, 1, 1, 1);
    dueChance(x, 0, 2, 3, 10);
    // Of all 60 ways 3 have sums below 2 together (1 and 0), and 21 have 2 or less (these, 1 and 1, 2 and 0).
    dueJoined(x, 1, 19, 20);
    dueJoined(x, 2, 7, 20);
    due("rank(0)", x.rank(0), 2);
    for (int t = 0; t < 3; t++) {
      due("table(0, " + t + ", 0)", x.table(0, t, 0), t);
      due("table(0, " + t + ", 1)", x.table(0, t, 1), 3 - t);
    }
    due("likeliest(0, 0)", x.likeliest(0, 0), 1);
    due("move(0, 0, 1)", x.move(0, 0, 1), 2);
    due("rank(0) moved", x.rank(0), 1);
    due("turn(0)", x.turn(0), 2);
    due("column(0, 0, 1) turned", x.column(0, 0, 1), 1);
    due("column(0, 1, 1) turned", x.column(0, 1, 1), 1);
    due("undo()", x.undo(), 1);
    due("undo()", x.undo(), 0);
    due("rank(0) undone", x.rank(0), 2);
  }

  private static void whatIsFree() {
    free("How the state is held inside the object is free, as are the speed of each call, the text of toString "
        + "and the behaviour of equals and hashCode.");
    free("Use of one object from several threads at once is not promised to be safe.");
    free("Nothing is promised beyond the answers and state changes described above, "
        + "and nothing about an object after its 512th call.");
  }

  private static void use() {
    says("What it is", "1 to 21", "An object is used for at most 512 calls after it has been made; "
        + "what later calls answer is free.");
    MarginTables x = new MarginTables();
    for (int n = 1; n <= 200; n++) {
      due("write('s')", x.write('s'), n);
    }
    due("wipe()", x.wipe(), 200);
    tell(x, MIDDLE + SMALL);
    due("lay()", x.lay(), 2);
    int calls = 200 + 1 + MIDDLE.length() + SMALL.length() + 1;
    for (; calls + 2 <= 511; calls += 2) {
      due("turn(0)", x.turn(0), 4);
      due("turn(0)", x.turn(0), 3);
    }
    due("calls so far", calls, 511);
    due("joined(1, 1), call 512", x.joined(1, 1), 14);
  }

  // ---- Terms: strata and the text

  private static void strataAndColumns() {
    terms("4, 5, 6, 10", "STRATA are 0, 1, 2 (3 at most), each of COLUMNS 0, 1, .. (2 to 5), "
        + "with T (1 to 12) in all, X (0 to T) of these ABOVE, a SCORE V (0 to 9).");
    dueFault("s;s;s;", NONE);
    dueFault("s;s;s;s;", 6);
    dueLaid("s;c1,0,0;", NO);
    dueLaid(LEAST, 1);
    dueLaid(HIGHEST, 1);
    dueFault(HIGHEST + "c1,0,0;", HIGHEST.length());
    dueFault("s;c0,0,0;", 2);
    dueFault("s;c1,0,0;", NONE);
    dueFault("s;c12,0,0;", NONE);
    dueFault("s;c13,0,0;", 2);
    dueFault("s;c99,0,0;", 2);
    dueFault("s;c1,1,0;", NONE);
    dueFault("s;c1,2,0;", 2);
    dueFault("s;c12,12,0;", NONE);
    dueFault("s;c12,13,0;", 2);
    dueFault("s;c5,5,9;", NONE);
    dueFault("s;c5,5,10;", 2);
    dueFault("s;c5,5,99;", 2);
    MarginTables x = laid(HIGHEST + HIGHEST + HIGHEST);
    due("count(0)", x.count(0), 3);
    due("count(1)", x.count(1), 15);
    dueColumn(x, 2, 4, 12, 12, 9);
    dueColumn(x, 3, 0, BAD, BAD, BAD);
    dueColumn(x, -1, 0, BAD, BAD, BAD);
    dueColumn(x, 2, 5, BAD, BAD, BAD);
    dueColumn(x, 2, -1, BAD, BAD, BAD);
    dueColumn(laid(LEAST), 0, 1, 1, 0, 0);
    dueColumn(laid(LEAST), 0, 2, BAD, BAD, BAD);
    dueColumn(laid(LEAST), 1, 0, BAD, BAD, BAD);
  }

  private static void letters() {
    terms("2, 3, 21", "THE TEXT is letters (200 at most).");
    MarginTables x = new MarginTables();
    due("count(6) of none", x.count(6), 0);
    for (int n = 1; n <= 200; n++) {
      due("write(';')", x.write(';'), n);
    }
    due("write(';') as letter 201", x.write(';'), FULL);
    due("count(6) of 200", x.count(6), 200);
    due("wipe() of 200", x.wipe(), 200);
    due("write(';') behind wipe()", x.write(';'), 1);
  }

  private static void items() {
    terms("4, 5", "A TEXT is ITEMS one behind the other, a ; behind each; numbers have one or two figures:");
    dueFault("", NONE);
    dueFault(SMALL + MIDDLE, NONE);
    dueFault("s", 0);
    dueFault(";", 0);
    dueFault("s;;", 2);
    dueFault(";s;", 0);
    dueFault("s; ", 2);
    dueFault(" s;", 0);
    dueFault("s;c5,4,3", 2);
    dueFault("s;c5,4,3;c5,4,3", 9);
    dueFault("s;c5,4,3,;", 2);
    dueFault("s;c5,4,3;;", 9);
    dueFault("s;c5,4;", 2);
    dueFault("s;c,4,3;", 2);
    dueFault("s;c5,,3;", 2);
    dueFault("s;c5,4,;", 2);
    dueFault("s;c9,9,9;", NONE);
    dueFault("s;c10,10,9;", NONE);
    dueFault("s;c01,00,09;", NONE);
    dueFault("s;c012,1,1;", 2);
    dueFault("s;c12,001,1;", 2);
    dueFault("s;c12,1,001;", 2);
    dueFault("s;c12,1,100;", 2);
    // A , between two numbers is not missed because each has its two figures.
    dueFault("s;c1201,5;", 2);
    dueFault("s;c12,0105;", 2);
    dueFault("s;c120105;", 2);
    dueFault("s;c12,01,05c12,01,05;", 2);
    // The signs next to the figures, and such as stand for a number elsewhere.
    dueFault("s;c/,0,0;", 2);
    dueFault("s;c:,0,0;", 2);
    dueFault("s;c5,-1,0;", 2);
    dueFault("s;c+5,1,0;", 2);
    dueFault("s;c5,1,:;", 2);
    dueFault("s;c5,1,/;", 2);
    dueFault("s;c1/,1,1;", 2);
    dueFault("s;c1:,1,1;", 2);
  }

  private static void nextStratum() {
    terms("4, 5", "s the next STRATUM, without COLUMNS so far");
    dueFault("s;", NONE);
    dueFault("s;s;", NONE);
    dueLaid("s;", NO);
    dueLaid(SMALL + "s;", NO);
    dueLaid(SMALL + "s;" + SMALL, NO);
    dueFault("s1;", 0);
    dueFault("ss;", 0);
    dueFault("s,;", 0);
    dueFault("S;", 0);
    dueFault("r;", 0);
    dueFault("t;", 0);
    // Five columns more, whatever the stratum ahead had; behind another text too.
    dueFault(HIGHEST + HIGHEST + HIGHEST, NONE);
    MarginTables x = laid(HIGHEST + HIGHEST + HIGHEST);
    x.wipe();
    tell(x, SMALL + "s;");
    due("lay() of a stratum without columns behind one of five", x.lay(), NO);
    x.wipe();
    tell(x, SMALL + HIGHEST);
    due("lay() of two behind three", x.lay(), 2);
    due("stratum(0, 0)", x.stratum(0, 0), 2);
    due("stratum(1, 0)", x.stratum(1, 0), 5);
  }

  private static void nextColumn() {
    terms("4, 5", "cT,X,V its next COLUMN (that of the STRATUM told last)");
    dueFault("c1,0,0;", 0);
    dueFault("c1,0,0;s;", 0);
    dueFault("s;C1,0,0;", 2);
    dueFault("s;b1,0,0;", 2);
    dueFault("s;d1,0,0;", 2);
    dueFault("s;c1.0.0;", 2);
    dueFault("s;c1;0,0;", 2);
    MarginTables x = laid("s;c2,1,3;c4,0,9;s;c12,12,0;c1,1,1;c3,2,9;");
    due("stratum(0, 0)", x.stratum(0, 0), 2);
    due("stratum(1, 0)", x.stratum(1, 0), 3);
    dueColumn(x, 0, 0, 2, 1, 3);
    dueColumn(x, 0, 1, 4, 0, 9);
    dueColumn(x, 1, 0, 12, 12, 0);
    dueColumn(x, 1, 1, 1, 1, 1);
    dueColumn(x, 1, 2, 3, 2, 9);
  }

  private static void faults() {
    terms("4", "FAULT: the place (from 0 on) of the first letter of the first ITEM that is not so "
        + "(or is one too many).");
    dueFault("x", 0);
    dueFault("s;c1,0,0;c1,2,0;c0,0,0;", 9);
    dueFault("s;c0,0,0;c1,2,0;", 2);
    dueFault("s;c1,0,0;s;c1,0,0;c1,0,0;x;s;", 25);
    dueFault(SMALL + SMALL + SMALL + "s;", 48);
    dueFault(SMALL + SMALL + SMALL + "s", 48);
    dueFault(SMALL + SMALL + SMALL + "c1,0,0;", NONE);
    String five = "c1,0,0;c1,0,0;c1,0,0;c1,0,0;c1,0,0;";
    dueFault("s;" + five, NONE);
    dueFault("s;" + five + "c1,0,0;", 37);
    dueFault("s;" + five + "c1,0,0;s;", 37);
    dueFault("s;" + five + "s;" + five + "s;" + five + "c1,0,0;", 111);
    // The longest text without a fault, and the last place there is.
    String longest = "s;c12,12,09;c12,12,09;c12,12,09;c12,12,09;c12,12,09;";
    dueFault(longest + longest + longest, NONE);
    dueFault(longest + longest + longest + "s;", 156);
    StringBuilder full = new StringBuilder(longest + longest + longest);
    while (full.length() < 200) {
      full.append('s');
    }
    dueFault(full.toString(), 156);
  }

  private static void laidTexts() {
    terms("1, 5", "LAID is a TEXT without FAULT with a STRATUM at least, each of two COLUMNS or more "
        + "(NO else; at first s;c8,1,0;c7,3,1;c9,6,2;c6,5,3;s;c5,1,0;c6,4,2;).");
    dueLaid("", NO);
    dueLaid("s;", NO);
    dueLaid("s;c1,0,0;", NO);
    dueLaid("s;c1,0,0;c1,0,0;", 1);
    dueLaid("s;c1,0,0;" + SMALL, NO);
    dueLaid(SMALL + "s;c1,0,0;", NO);
    dueLaid(SMALL + "s;c1,0,0;" + SMALL, NO);
    dueLaid(SMALL + SMALL + "s;c1,0,0;", NO);
    dueLaid(SMALL + SMALL + SMALL, 3);
    dueLaid(SMALL + SMALL + SMALL + "s;", NO);
    dueLaid(SMALL + "x", NO);
    dueLaid(SMALL + "c2,3,0;", NO);
    dueLaid("s;c2,1,0;c2,1,1", NO);
    dueLaid(HIGHEST + "c1,0,0;", NO);
    MarginTables x = new MarginTables();
    int[][] first = {{8, 1, 0}, {7, 3, 1}, {9, 6, 2}, {6, 5, 3}};
    for (int j = 0; j < 4; j++) {
      dueColumn(x, 0, j, first[j][0], first[j][1], first[j][2]);
    }
    dueColumn(x, 0, 4, BAD, BAD, BAD);
    dueColumn(x, 1, 0, 5, 1, 0);
    dueColumn(x, 1, 1, 6, 4, 2);
    dueColumn(x, 1, 2, BAD, BAD, BAD);
    dueColumn(x, 2, 0, BAD, BAD, BAD);
    due("lay() at first", x.lay(), NO);
    due("count(0) behind NO", x.count(0), 2);
  }

  // ---- Terms: tables

  private static void allTogether() {
    terms("11, 19, 21", "N of a STRATUM: all its T together; R: all its X together; "
        + "SEEN is the TABLE of its X.");
    String[] texts = {LEAST, NONE_ABOVE, ALL_ABOVE, HIGHEST, WIDEST};
    int[][] want = {{2, 0}, {7, 0}, {7, 7}, {60, 60}, {60, 30}};
    for (int i = 0; i < texts.length; i++) {
      MarginTables x = laid(texts[i]);
      due("stratum(0, 1) of " + texts[i], x.stratum(0, 1), want[i][0]);
      due("stratum(0, 2) of " + texts[i], x.stratum(0, 2), want[i][1]);
      int rank = x.rank(0);
      for (int j = 0; j < x.stratum(0, 0); j++) {
        due("table(0, rank(0), " + j + ") of " + texts[i], x.table(0, rank, j), x.column(0, j, 1));
      }
    }
  }

  private static void tables() {
    terms("11, 18", "A TABLE of a STRATUM has a number from 0 to T for each COLUMN, together R.");
    due("stratum(0, 4), none above", laid(NONE_ABOVE).stratum(0, 4), 1);
    due("stratum(0, 4), all above", laid(ALL_ABOVE).stratum(0, 4), 1);
    due("stratum(0, 4), one above of two columns", laid("s;c12,1,0;c12,0,0;").stratum(0, 4), 2);
    due("stratum(0, 4), one not above of two columns", laid("s;c12,11,0;c12,12,0;").stratum(0, 4), 2);
    due("stratum(0, 4), one above of five columns",
        laid("s;c1,0,0;c1,0,0;c1,1,0;c1,0,0;c1,0,0;").stratum(0, 4), 5);
    // T of column 0 keeps its number at 1, so that column 1 has 4 or 3.
    MarginTables x = laid("s;c1,1,0;c12,3,0;");
    due("stratum(0, 4), T 1 and 12", x.stratum(0, 4), 2);
    int[][] want = {{0, 4}, {1, 3}};
    for (int t = 0; t < 2; t++) {
      due("table(0, " + t + ", 0)", x.table(0, t, 0), want[t][0]);
      due("table(0, " + t + ", 1)", x.table(0, t, 1), want[t][1]);
    }
    // The same the other way round: column 1 holds 1 at most, so column 0 has 3 at least.
    x = laid("s;c12,3,0;c1,1,0;");
    due("table(0, 0, 0), T 12 and 1", x.table(0, 0, 0), 3);
    due("table(0, 1, 0), T 12 and 1", x.table(0, 1, 0), 4);
    x = laid("s;c12,12,0;c12,0,0;");
    due("stratum(0, 4), 12 above of 12 and 12", x.stratum(0, 4), 13);
    due("table(0, 0, 0)", x.table(0, 0, 0), 0);
    due("table(0, 12, 0)", x.table(0, 12, 0), 12);
  }

  private static void waysOfTables() {
    terms("12", "WAYS of a TABLE: the product of, for each COLUMN, how many sets of as many there are of T.");
    due("ways(0, 0), none above", laid(NONE_ABOVE).ways(0, 0), 1);
    due("ways(0, 0), all above", laid(ALL_ABOVE).ways(0, 0), 1);
    due("ways(0, 0) of the widest", laid(WIDEST).ways(0, 0), 924L * 924 * 924 * 924 * 924);
    due("ways(0, 0), T 1", laid("s;c1,1,0;c1,0,0;").ways(0, 0), 1);
    long[] ofTwelve = {1, 12, 66, 220, 495, 792, 924, 792, 495, 220, 66, 12, 1};
    for (int number = 0; number <= 12; number++) {
      MarginTables x = laid("s;c12," + number + ",0;c1,1,0;");
      due("ways(0, 0), " + number + " of 12", x.ways(0, 0), ofTwelve[number]);
    }
  }

  private static void allWays() {
    terms("12", "ALL: WAYS of all TABLES together.");
    due("ways(0, 1), one table", laid(NONE_ABOVE).ways(0, 1), 1);
    due("ways(0, 1), one table, all above", laid(HIGHEST).ways(0, 1), 1);
    due("ways(0, 1), two tables", laid("s;c1,1,0;c12,3,0;").ways(0, 1), 715);
    due("ways(0, 1) of the widest", laid(WIDEST).ways(0, 1), WIDEST_ALL);
  }

  private static void numbersOfTables() {
    terms("18, 19, 20", "TABLES are numbered 0, 1, .. by the number of COLUMN 0, the least first, "
        + "then of COLUMN 1, ..");
    int[][] want = {{0, 0, 3}, {0, 1, 2}, {0, 2, 1}, {1, 0, 2}, {1, 1, 1}, {1, 2, 0}, {2, 0, 1}, {2, 1, 0}};
    for (int t = 0; t < want.length; t++) {
      MarginTables x = laid(MIDDLE);
      for (int j = 0; j < 3; j++) {
        due("table(0, " + t + ", " + j + ")", laid(MIDDLE).table(0, t, j), want[t][j]);
        x.set(0, j, 0, want[t][j]);
      }
      due("rank(0) of table " + t, x.rank(0), t);
    }
    MarginTables first = laid("s;c12,0,0;c12,6,0;c12,12,0;c12,12,0;");
    due("rank(0) of the first", first.rank(0), 0);
    first.turn(0);
    due("rank(0) of the last", first.rank(0), first.stratum(0, 4) - 1);
    due("table(0, rank(0), 0) of the last", first.table(0, first.rank(0), 0), 12);
    due("table(0, rank(0), 3) of the last", first.table(0, first.rank(0), 3), 0);
  }

  private static void sums() {
    terms("11", "SUM of a TABLE: its numbers times SCORES, together.");
    due("stratum(0, 3), none above", laid(NONE_ABOVE).stratum(0, 3), 0);
    due("stratum(0, 3), no scores", laid(WIDEST).stratum(0, 3), 0);
    due("stratum(0, 3) of the highest", laid(HIGHEST).stratum(0, 3), 540);
    due("stratum(0, 3)", laid(MIDDLE).stratum(0, 3), 6);
    due("count(4) of three of the highest", laid(HIGHEST + HIGHEST + HIGHEST).count(4), 1620);
  }

  // ---- Terms: strange ones

  private static void strangeOnes() {
    terms("13, 15", "STRANGE are TABLES of a STRATUM by a LAW: 0 RARE: of WAYS no more than SEEN has; "
        + "1 HIGH: of a SUM no less than SEEN's; 2 LOW: of a SUM no more.");
    // Seen is strange itself, and so is each that equals it.
    MarginTables x = laid("s;c2,0,0;c2,2,1;");
    due("strange(0, 0), two of 1 way", x.strange(0, 0), 2);
    due("strange(0, 1), the greatest sum", x.strange(0, 1), 1);
    due("strange(0, 2), the greatest sum", x.strange(0, 2), 3);
    x.set(0, 0, 1, 1);
    due("strange(0, 1), all of one sum", x.strange(0, 1), 3);
    due("strange(0, 2), all of one sum", x.strange(0, 2), 3);
    x = laid("s;c2,2,0;c2,0,1;");
    due("strange(0, 1), the least sum", x.strange(0, 1), 3);
    due("strange(0, 2), the least sum", x.strange(0, 2), 1);
    x = laid(SMALL);
    due("strange(0, 0), the most ways", x.strange(0, 0), 3);
    for (int law = 0; law < 3; law++) {
      due("strange(0, " + law + "), one table", laid(NONE_ABOVE).strange(0, law), 1);
      due("strange(0, " + law + "), one table, the highest sum", laid(HIGHEST).strange(0, law), 1);
    }
  }

  private static void chances() {
    terms("13", "CHANCE by a LAW: WAYS of all STRANGE ones together by ALL.");
    for (int law = 0; law < 3; law++) {
      dueChance(laid(NONE_ABOVE), 0, law, 1, 1);
      dueChance(laid(HIGHEST), 0, law, 1, 1);
      dueChance(laid(WIDEST), 0, law, 1, 1);
    }
    MarginTables x = laid("s;c2,0,0;c2,2,1;");
    dueChance(x, 0, 0, 1, 3);
    dueChance(x, 0, 1, 1, 6);
    dueChance(x, 0, 2, 1, 1);
    // Told anew, all is reckoned anew.
    x.set(0, 1, 0, 1);
    dueChance(x, 0, 0, 1, 1);
    due("strange(0, 0)", x.strange(0, 0), 2);
    dueChance(x, 0, 1, 1, 2);
    x.undo();
    dueChance(x, 0, 0, 1, 3);
    due("strange(0, 0)", x.strange(0, 0), 2);
    dueChance(x, 0, 1, 1, 6);
    x = laid("s;c12,12,9;c12,12,9;c12,6,1;c12,0,0;c12,0,0;");
    dueChance(x, 0, 1, 3, 383975914171628L);
    x = laid("s;c12,12,9;c12,12,9;c12,0,1;c12,0,0;c12,0,0;");
    dueChance(x, 0, 1, 1, 36052387482172425L);
  }

  private static void joinedStrata() {
    terms("14", "JOINED by HIGH (1) or LOW (2): of all ways to take a TABLE of each STRATUM, WAYS being the "
        + "product: WAYS of those whose SUMS together are no less (no more) than those of all SEEN together, "
        + "by WAYS of all.");
    MarginTables one = laid(SMALL);
    dueJoined(one, 1, 5, 6);
    dueJoined(one, 2, 5, 6);
    // Sums 0 to 2 of 1, 4, 1 ways twice: 0 to 4 of 1, 8, 18, 8, 1, seen 2, then 4, then 0.
    MarginTables two = laid(SMALL + SMALL);
    dueJoined(two, 1, 3, 4);
    dueJoined(two, 2, 3, 4);
    two = laid("s;c2,0,0;c2,2,1;s;c2,0,0;c2,2,1;");
    dueJoined(two, 1, 1, 36);
    dueJoined(two, 2, 1, 1);
    two.set(0, 0, 1, 1);
    two.set(0, 1, 1, 0);
    two.turn(1);
    dueJoined(two, 1, 1, 1);
    dueJoined(two, 2, 1, 36);
    // Thrice: 0 to 6 of 1, 12, 51, 88, 51, 12, 1, seen 3.
    dueJoined(laid(SMALL + SMALL + SMALL), 1, 19, 27);
    for (int law = 1; law <= 2; law++) {
      dueJoined(laid(NONE_ABOVE), law, 1, 1);
      dueJoined(laid(NONE_ABOVE + ALL_ABOVE + LEAST), law, 1, 1);
      dueJoined(laid(HIGHEST + HIGHEST + HIGHEST), law, 1, 1);
      dueJoined(laid(WIDEST), law, 1, 1);
    }
  }

  private static void tooManyJoined() {
    terms("14", "It is none, if WAYS of all are above 9223372036854775807.");
    // 1275 times 741 times 9762479679106 are 9223346738827371150, the nearest below that can be laid.
    String[] below = {"s;c12,12,0;c12,12,0;c12,12,0;c12,12,0;c3,1,0;", "s;c12,12,1;c12,12,0;c12,12,0;c3,1,0;",
      "s;c12,12,0;c12,12,0;c12,3,0;c11,0,0;"};
    dueInAllOrders(below, 9, 19);
    // 1352078 times 817190 times 8347680 are 9223390205126697600, the nearest above.
    String[] above = {"s;c12,12,0;c11,0,0;", "s;c12,12,0;c11,2,0;", "s;c12,12,1;c12,12,0;c12,5,0;"};
    dueInAllOrders(above, NONE, NONE);
    // 118264581564861424 go 77 times into that number, and not 78 times.
    dueInAllOrders(new String[] {"s;c6,1,0;c1,0,0;", "s;c10,1,0;c1,0,0;", WIDEST}, 1, 1);
    dueInAllOrders(new String[] {"s;c5,1,0;c1,0,0;", "s;c12,1,0;c1,0,0;", WIDEST}, NONE, NONE);
    // 229911617056 times 40116600 are below, 751616304549 times 12271512 above.
    dueJoined(laid("s;c12,12,0;c12,12,0;c12,5,0;c8,0,0;s;c12,12,0;c12,2,0;c4,0,0;"), 1, 1, 1);
    dueJoined(laid("s;c12,12,0;c12,2,0;c4,0,0;s;c12,12,0;c12,12,0;c12,5,0;c8,0,0;"), 2, 1, 1);
    dueJoined(laid("s;c12,12,0;c12,12,0;c12,8,0;c11,0,0;s;c12,12,0;c12,12,0;c12,12,0;c12,6,0;"), 1, NONE, NONE);
    dueJoined(laid("s;c12,12,0;c12,12,0;c12,12,0;c12,6,0;s;c12,12,0;c12,12,0;c12,8,0;c11,0,0;"), 2, NONE, NONE);
    // One way more or less does not bring back what is too much; a product beyond 64 bits neither.
    dueJoined(laid(WIDEST + LEAST + "s;c12,12,0;c12,6,0;c12,0,0;"), 1, NONE, NONE);
    dueJoined(laid(WIDEST + WIDEST + LEAST), 1, NONE, NONE);
    dueJoined(laid(WIDEST + WIDEST + WIDEST), 2, NONE, NONE);
    MarginTables x = laid(WIDEST + "s;c12,2,0;c1,0,0;");
    dueJoined(x, 1, NONE, NONE);
    x.set(1, 0, 0, 1);
    dueJoined(x, 1, 1, 1);
    x.undo();
    dueJoined(x, 1, NONE, NONE);
  }

  private static void dueInAllOrders(String[] strata, long above, long below) {
    int[][] orders = {{0, 1, 2}, {0, 2, 1}, {1, 0, 2}, {1, 2, 0}, {2, 0, 1}, {2, 1, 0}};
    for (int[] order : orders) {
      MarginTables x = laid(strata[order[0]] + strata[order[1]] + strata[order[2]]);
      dueJoined(x, 1, above, below);
      dueJoined(x, 2, above == NONE ? NONE : 1, above == NONE ? NONE : 1);
    }
  }

  // ---- Terms: nodes and looks

  private static void nodes() {
    terms("16", "A NODE (j, a) is what is ahead of COLUMN j, a being the numbers of COLUMNS 0 to j - 1 together "
        + "(j from 0 to how many COLUMNS there are).");
    MarginTables x = laid(MIDDLE);
    due("node(0, 0, 0, 0)", x.node(0, 0, 0, 0), 1);
    due("node(0, 3, 3, 0)", x.node(0, 3, 3, 0), 35);
    dueNode(x, 4, 3, BAD);
    dueNode(x, -1, 0, BAD);
    x = laid(WIDEST);
    dueNode(x, 0, 0, 1, WIDEST_ALL, 924L * 924 * 924 * 924 * 924, 924);
    dueNode(x, 5, 30, WIDEST_ALL, 1, 1, 1);
    dueNode(x, 6, 30, BAD);
  }

  private static void nodesThatAreThere() {
    terms("16", "It is there, if a TABLE comes by it.");
    MarginTables x = laid(MIDDLE);
    dueNode(x, 0, 1, NONE);
    dueNode(x, 1, 2, 1, 5, 3, 2);
    dueNode(x, 1, 3, NONE);
    dueNode(x, 3, 2, NONE);
    // With R 6 of N 7 one is not above: column 0 has 1 or 2, columns 0 and 1 have 3 or 4.
    x.set(0, 1, 0, 2);
    x.set(0, 2, 0, 3);
    int[][] there = {{0, 0}, {1, 1}, {1, 2}, {2, 3}, {2, 4}, {3, 6}};
    for (int j = 0; j <= 3; j++) {
      for (int a = 0; a <= 6; a++) {
        boolean isThere = false;
        for (int[] node : there) {
          isThere |= node[0] == j && node[1] == a;
        }
        due("is node(0, " + j + ", " + a + ", 0) there", x.node(0, j, a, 0) == NONE ? 0 : 1, isThere ? 1 : 0);
      }
    }
    x = laid(HIGHEST);
    for (int j = 0; j <= 5; j++) {
      dueNode(x, j, 12 * j, 1, 1, 1, 1);
      dueNode(x, j, j == 0 ? 1 : 12 * j - 1, NONE);
    }
    dueNode(laid(NONE_ABOVE), 2, 0, 1, 1, 1, 1);
  }

  private static void waysByNodes() {
    terms("16", "AHEAD of it: WAYS of all rows of numbers for COLUMNS 0 to j - 1 of sum a, together (1 for j 0); "
        + "BEHIND: of all rows for COLUMNS j on by which R is reached; "
        + "LONGEST, SHORTEST: the most and the fewest WAYS of one such row behind it.");
    MarginTables x = laid(MIDDLE);
    // j, a, then AHEAD, BEHIND, LONGEST, SHORTEST: of the first node, one between, and the last.
    dueNode(x, 0, 0, 1, 35, 12, 1);
    dueNode(x, 1, 0, 1, 10, 6, 1);
    dueNode(x, 1, 1, 2, 10, 6, 1);
    dueNode(x, 2, 1, 4, 3, 3, 3);
    dueNode(x, 2, 2, 6, 3, 3, 3);
    dueNode(x, 2, 3, 4, 1, 1, 1);
    dueNode(x, 3, 3, 35, 1, 1, 1);
    x.turn(0);
    dueNode(x, 0, 0, 1, 35, 12, 1);
    dueNode(x, 3, 4, 35, 1, 1, 1);
    dueNode(x, 3, 3, NONE);
    dueNode(x, 2, 3, 4, 3, 3, 3);
  }

  private static void walks() {
    terms("17", "LOOKS of a STRATUM: the walk begins at NODE (0, 0) with 1; from a NODE with WAYS w so far "
        + "(those of the numbers taken) it LOOKS, one by one, at each number of COLUMN j, the least first, "
        + "with which the next NODE is there, w times its WAYS being v: "
        + "if v times LONGEST of that is no more than WAYS of SEEN, all from there on are RARE, "
        + "if v times SHORTEST is more, none is; either way it goes no farther; else it goes on from there.");
    // One table: the first look ends it.
    due("looks(0, 0), one table", laid(NONE_ABOVE).looks(0, 0), 1);
    due("looks(0, 0), one table of five columns", laid(HIGHEST).looks(0, 0), 1);
    // Seen has most ways: no more than that are all behind each number of column 0.
    due("looks(0, 0), the most ways", laid(WIDEST).looks(0, 0), 13);
    MarginTables x = laid(MIDDLE);
    // 6 ways: behind 0 the most are 6, no more; behind 1 (2 ways) 12 to 2, on to three; behind 2 the most are 3.
    due("looks(0, 0) of 6 ways", x.looks(0, 0), 3 + 3);
    // 3 ways: behind 0 6 to 1, on to three; behind 1 12 to 2, on to three; behind 2 the most are 3, no more.
    x.set(0, 0, 0, 0);
    x.set(0, 1, 0, 2);
    x.set(0, 2, 0, 1);
    due("looks(0, 0) of 3 ways", x.looks(0, 0), 3 + 3 + 3);
    // 2 ways: behind 1 12 to 2 and behind 2 3 to 2, 2 being no more than 2: on to three and to two.
    x.set(0, 0, 0, 2);
    x.set(0, 1, 0, 1);
    x.set(0, 2, 0, 0);
    due("looks(0, 0) of 2 ways", x.looks(0, 0), 3 + 3 + 3 + 2);
    // 1 way: behind 0 6 to 1, on to three; behind 1 and 2 the fewest are 2, more.
    x.set(0, 0, 0, 0);
    x.set(0, 1, 0, 0);
    x.set(0, 2, 0, 3);
    due("looks(0, 0) of 1 way", x.looks(0, 0), 3 + 3);
  }

  private static void lastNode() {
    terms("16, 17", "(At the last NODE LONGEST, SHORTEST are 1.)");
    MarginTables x = laid(SMALL);
    dueNode(x, 2, 2, 6, 1, 1, 1);
    dueNode(laid(LEAST), 2, 0, 1, 1, 1, 1);
    dueNode(laid(HIGHEST), 5, 60, 1, 1, 1, 1);
    // Of 1 way seen: 0 and 2 are rare, 1 is not; the last column needs no look more.
    x.move(0, 0, 1);
    due("looks(0, 0) of 1 way", x.looks(0, 0), 3);
    due("looks(0, 1)", x.looks(0, 1), 6);
  }

  // ---- Terms: told anew

  private static void moved() {
    terms("7", "MOVED is one from COLUMN a to COLUMN b: X of a is 1 less, X of b 1 more.");
    MarginTables x = laid("s;c1,1,0;c12,11,0;c3,2,0;");
    due("move(0, 0, 1)", x.move(0, 0, 1), 12);
    dueColumn(x, 0, 0, 1, 0, 0);
    dueColumn(x, 0, 1, 12, 12, 0);
    dueColumn(x, 0, 2, 3, 2, 0);
    due("stratum(0, 2)", x.stratum(0, 2), 14);
    due("move(0, 1, 0)", x.move(0, 1, 0), 1);
    dueColumn(x, 0, 0, 1, 1, 0);
    dueColumn(x, 0, 1, 12, 11, 0);
  }

  private static void turned() {
    terms("8", "TURNED is a STRATUM: each X is T less X.");
    MarginTables x = laid("s;c12,0,1;c1,1,2;c12,6,3;c5,2,4;c3,3,5;" + SMALL);
    due("turn(0)", x.turn(0), 12 + 0 + 6 + 3 + 0);
    dueColumn(x, 0, 0, 12, 12, 1);
    dueColumn(x, 0, 1, 1, 0, 2);
    dueColumn(x, 0, 2, 12, 6, 3);
    dueColumn(x, 0, 3, 5, 3, 4);
    dueColumn(x, 0, 4, 3, 0, 5);
    due("turn(0)", x.turn(0), 12);
    dueColumn(x, 0, 0, 12, 0, 1);
    dueColumn(x, 0, 3, 5, 2, 4);
    due("stratum(1, 2)", x.stratum(1, 2), 2);
    due("turn(0), none above", laid(NONE_ABOVE).turn(0), 7);
    due("turn(0), all above", laid(HIGHEST).turn(0), 0);
  }

  private static void changes() {
    terms("6, 7, 8, 9, 21", "A change: X or a SCORE told anew, MOVED, TURNED.");
    MarginTables x = laid(SMALL + "s;c2,2,0;c2,1,1;");
    due("count(5) at first", x.count(5), 0);
    x.set(0, 0, 0, 2);
    due("count(5) behind X told anew", x.count(5), 1);
    x.set(0, 0, 1, 9);
    due("count(5) behind a SCORE told anew", x.count(5), 2);
    x.move(0, 0, 1);
    due("count(5) behind MOVED", x.count(5), 3);
    x.turn(1);
    due("count(5) behind TURNED", x.count(5), 4);
    x.turn(0);
    due("count(5) behind TURNED, each X being half of T", x.count(5), 5);
    x.write('s');
    x.fault();
    x.lay();
    x.chance(0, 0, 0);
    x.joined(1, 0);
    x.wipe();
    due("count(5) behind what is none", x.count(5), 5);
    due("undo()", x.undo(), 4);
    due("undo()", x.undo(), 3);
    dueColumn(x, 1, 0, 2, 2, 0);
    due("undo()", x.undo(), 2);
    dueColumn(x, 0, 0, 2, 2, 9);
    dueColumn(x, 0, 1, 2, 1, 1);
    due("undo()", x.undo(), 1);
    dueColumn(x, 0, 0, 2, 2, 0);
    due("undo()", x.undo(), 0);
    dueColumn(x, 0, 0, 2, 1, 0);
  }

  private static void undone() {
    terms("9, 21", "UNDONE is the latest change (the last 6 can be; behind LAID none can be).");
    for (int many = 0; many <= 18; many++) {
      MarginTables x = laid("s;c12,0,0;c12,12,0;");
      for (int change = 1; change <= many; change++) {
        x.set(0, change % 2, 1, (change + 1) / 2);
      }
      int can = Math.min(many, 6);
      due("count(5) behind " + many, x.count(5), can);
      for (int left = can - 1; left >= 0; left--) {
        due("undo() behind " + many, x.undo(), left);
        int at = many - can + left;
        due("SCORE 0 with " + left + " left of " + many, x.column(0, 0, 2), at / 2);
        due("SCORE 1 with " + left + " left of " + many, x.column(0, 1, 2), (at + 1) / 2);
      }
      due("undo() behind all of " + many, x.undo(), NO);
      due("count(5)", x.count(5), 0);
    }
    MarginTables x = laid(SMALL);
    x.turn(0);
    x.set(0, 0, 1, 5);
    due("count(5)", x.count(5), 2);
    due("lay()", x.lay(), 1);
    due("count(5) behind LAID", x.count(5), 0);
    due("undo() behind LAID", x.undo(), NO);
    dueColumn(x, 0, 0, 2, 1, 0);
  }

  // ---- Terms: what is refused

  private static void badNumbers() {
    terms("6, 7, 8, 10 to 20", "BAD: a number is none that is told (STRATA, COLUMNS, TABLES such as there are).");
    MarginTables x = laid(SMALL + MIDDLE);
    due("turn(1)", x.turn(1), 4);
    due("turn(2)", x.turn(2), BAD);
    due("column(0, 1, 0)", x.column(0, 1, 0), 2);
    due("column(0, 2, 0)", x.column(0, 2, 0), BAD);
    due("column(1, 2, 0)", x.column(1, 2, 0), 3);
    due("column(1, 3, 0)", x.column(1, 3, 0), BAD);
    due("table(0, 2, 0)", x.table(0, 2, 0), 2);
    due("table(0, 3, 0)", x.table(0, 3, 0), BAD);
    due("table(1, 7, 0)", x.table(1, 7, 0), 2);
    due("table(1, 8, 0)", x.table(1, 8, 0), BAD);
    // What there was is there no more.
    x.wipe();
    tell(x, LEAST);
    due("lay()", x.lay(), 1);
    dueOnlyLeast(x);
    x.set(0, 0, 0, 1);
    due("table(0, 1, 0), R 1", x.table(0, 1, 0), 1);
    due("table(0, 2, 0), R 1", x.table(0, 2, 0), BAD);
    x.set(0, 1, 0, 1);
    due("table(0, 1, 0), R 2", x.table(0, 1, 0), BAD);
  }

  private static void dueOnlyLeast(MarginTables x) {
    due("table(0, 0, 1)", x.table(0, 0, 1), 0);
    due("table(0, 1, 0)", x.table(0, 1, 0), BAD);
    due("column(0, 2, 0)", x.column(0, 2, 0), BAD);
    due("likeliest(0, 2)", x.likeliest(0, 2), BAD);
    due("move(0, 0, 2)", x.move(0, 0, 2), BAD);
    due("set(0, 2, 0, 0)", x.set(0, 2, 0, 0), BAD);
    due("set(1, 0, 0, 1)", x.set(1, 0, 0, 1), BAD);
    due("move(1, 0, 1)", x.move(1, 0, 1), BAD);
    due("turn(1)", x.turn(1), BAD);
    due("column(1, 0, 0)", x.column(1, 0, 0), BAD);
    due("stratum(1, 0)", x.stratum(1, 0), BAD);
    due("ways(1, 1)", x.ways(1, 1), BAD);
    due("chance(1, 0, 0)", x.chance(1, 0, 0), BAD);
    due("strange(1, 0)", x.strange(1, 0), BAD);
    due("node(1, 0, 0, 0)", x.node(1, 0, 0, 0), BAD);
    due("looks(1, 0)", x.looks(1, 0), BAD);
    due("table(1, 0, 0)", x.table(1, 0, 0), BAD);
    due("rank(1)", x.rank(1), BAD);
    due("likeliest(1, 0)", x.likeliest(1, 0), BAD);
  }

  private static void notAsThingsStand() {
    terms("5, 6, 7, 9", "NO: not as things stand.");
    due("the constant NO", NO, -2);
    MarginTables x = laid("s;c1,0,0;c1,1,0;");
    due("set(0, 0, 0, 0)", x.set(0, 0, 0, 0), NO);
    due("move(0, 0, 1)", x.move(0, 0, 1), NO);
    due("undo()", x.undo(), NO);
    x.wipe();
    due("lay()", x.lay(), NO);
    // As things stand then it is so.
    due("move(0, 1, 0)", x.move(0, 1, 0), 1);
    due("move(0, 0, 1)", x.move(0, 0, 1), 1);
    due("undo()", x.undo(), 1);
    due("set(0, 0, 0, 0)", x.set(0, 0, 0, 0), 1);
    tell(x, SMALL);
    due("lay()", x.lay(), 1);
  }

  private static void thereIsNone() {
    terms("4, 14, 16", "NONE: there is none.");
    due("the constant NONE", NONE, -4);
    due("fault()", new MarginTables().fault(), NONE);
    due("joined(1, 0)", laid(WIDEST + WIDEST).joined(1, 0), NONE);
    due("node(0, 0, 1, 0)", laid(SMALL).node(0, 0, 1, 0), NONE);
  }

  private static void full() {
    terms("2", "FULL.");
    due("the constant FULL", FULL, -3);
    MarginTables x = new MarginTables();
    for (int n = 1; n < 200; n++) {
      x.write('c');
    }
    due("write('s') with 199", x.write('s'), 200);
    due("write('s') with 200", x.write('s'), FULL);
    due("write('s') again", x.write('s'), FULL);
    due("fault()", x.fault(), 0);
  }

  private static void orderOfAnswers() {
    terms("2, 6, 7, 14, 16", "Of several the first in this order, whatever the order at a call; "
        + "nothing changes then.");
    due("the constant BAD", BAD, -1);
    // BAD ahead of FULL.
    MarginTables x = new MarginTables();
    for (int n = 1; n <= 200; n++) {
      x.write('s');
    }
    due("write(31) when full", x.write(31), BAD);
    due("write(127) when full", x.write(127), BAD);
    due("write(-1) when full", x.write(-1), BAD);
    due("write(32) when full", x.write(32), FULL);
    // BAD ahead of NO: a has none ABOVE, b all, and it is so.
    x = laid("s;c1,0,0;c1,1,0;");
    due("move(0, 0, 0)", x.move(0, 0, 0), BAD);
    due("move(0, 1, 1)", x.move(0, 1, 1), BAD);
    due("move(0, 0, 2)", x.move(0, 0, 2), BAD);
    due("move(0, 2, 1)", x.move(0, 2, 1), BAD);
    due("move(1, 0, 1)", x.move(1, 0, 1), BAD);
    due("move(0, 0, 1)", x.move(0, 0, 1), NO);
    due("set(0, 0, 2, 0)", x.set(0, 0, 2, 0), BAD);
    due("set(0, 2, 0, 0)", x.set(0, 2, 0, 0), BAD);
    due("set(1, 0, 0, 0)", x.set(1, 0, 0, 0), BAD);
    due("set(0, 0, 0, 0)", x.set(0, 0, 0, 0), NO);
    due("count(5)", x.count(5), 0);
    // BAD ahead of NONE.
    x = laid(WIDEST + WIDEST);
    due("joined(0, 0)", x.joined(0, 0), BAD);
    due("joined(3, 0)", x.joined(3, 0), BAD);
    due("joined(1, 2)", x.joined(1, 2), BAD);
    due("joined(2, -1)", x.joined(2, -1), BAD);
    due("node(0, 0, 1, 4)", x.node(0, 0, 1, 4), BAD);
    due("node(0, 0, 1, -1)", x.node(0, 0, 1, -1), BAD);
    due("node(2, 0, 1, 0)", x.node(2, 0, 1, 0), BAD);
    due("node(0, 0, 1, 0)", x.node(0, 0, 1, 0), NONE);
  }

  private static void textStays() {
    terms("5, 21", "THE TEXT stays when it is LAID.");
    MarginTables x = laid(SMALL);
    due("count(6)", x.count(6), SMALL.length());
    due("fault()", x.fault(), NONE);
    x.turn(0);
    due("lay() again", x.lay(), 1);
    due("count(6)", x.count(6), SMALL.length());
    tell(x, MIDDLE);
    due("lay() of it with more behind", x.lay(), 2);
    due("count(6)", x.count(6), SMALL.length() + MIDDLE.length());
    due("write('x')", x.write('x'), SMALL.length() + MIDDLE.length() + 1);
    due("lay()", x.lay(), NO);
    due("count(6) behind NO", x.count(6), SMALL.length() + MIDDLE.length() + 1);
    due("wipe()", x.wipe(), SMALL.length() + MIDDLE.length() + 1);
    due("count(0) wiped", x.count(0), 2);
  }

  // ---- Promises 1 to 9

  private static void promise1() {
    promise(1, "As told; THE TEXT is empty.");
    MarginTables x = new MarginTables();
    int[] want = {2, 6, 41, 20, 38, 0, 0, BAD};
    for (int what = 0; what < want.length; what++) {
      due("count(" + what + ")", x.count(what), want[what]);
    }
    due("fault()", x.fault(), NONE);
    due("wipe()", x.wipe(), 0);
    due("undo()", x.undo(), NO);
    // What one object is told the next one does not know.
    x.turn(0);
    x.write('s');
    MarginTables y = new MarginTables();
    dueColumn(y, 0, 0, 8, 1, 0);
    due("count(5) of another", y.count(5), 0);
    due("count(6) of another", y.count(6), 0);
    due("count(6)", x.count(6), 1);
  }

  private static void promise2() {
    promise(2, "A letter (32 to 126, as in ASCII) comes behind THE TEXT: how long it is.");
    MarginTables x = new MarginTables();
    for (int letter = 32; letter <= 126; letter++) {
      due("write(" + letter + ")", x.write(letter), letter - 31);
    }
    x.wipe();
    tell(x, "s");
    due("fault() of s", x.fault(), 0);
    due("write(';')", x.write(';'), 2);
    due("fault() of s;", x.fault(), NONE);
    promise(2, "BAD; FULL: it has 200.");
    x.wipe();
    int[] bad = {31, 127, 128, 0, -1, 255, 256 + 65, 65536 + 65, Integer.MIN_VALUE + 65, Integer.MIN_VALUE,
      Integer.MAX_VALUE, -65, -32, -126};
    for (int letter : bad) {
      due("write(" + letter + ")", x.write(letter), BAD);
    }
    due("count(6) behind BAD", x.count(6), 0);
    for (int n = 1; n <= 199; n++) {
      x.write('a');
    }
    due("write(126) with 199", x.write(126), 200);
    due("write(126) with 200", x.write(126), FULL);
    due("write(32) with 200", x.write(32), FULL);
    due("count(6)", x.count(6), 200);
  }

  private static void promise3() {
    promise(3, "THE TEXT is empty: how long it was.");
    MarginTables x = new MarginTables();
    due("wipe() of an empty one", x.wipe(), 0);
    x.write('x');
    due("wipe() of one", x.wipe(), 1);
    due("wipe() again", x.wipe(), 0);
    due("fault()", x.fault(), NONE);
    due("lay()", x.lay(), NO);
    for (int n = 1; n <= 200; n++) {
      x.write('x');
    }
    x.write('x');
    due("wipe() of a full one", x.wipe(), 200);
    due("count(6)", x.count(6), 0);
    tell(x, SMALL);
    due("fault() behind wipe()", x.fault(), NONE);
    x.turn(0);
    x.wipe();
    due("count(0) wiped", x.count(0), 2);
    due("count(5) wiped", x.count(5), 1);
  }

  private static void promise4() {
    promise(4, "FAULT of THE TEXT.");
    dueFault("x", 0);
    dueFault(SMALL + "x", SMALL.length());
    dueFault("s;c2,1,0;c2,1,1", 9);
    MarginTables x = new MarginTables();
    for (int n = 1; n <= 100; n++) {
      x.write('s');
      x.write(';');
    }
    due("fault() of 100 strata", x.fault(), 6);
    due("fault() again", x.fault(), 6);
    due("count(6)", x.count(6), 200);
    due("count(0)", x.count(0), 2);
    promise(4, "NONE.");
    dueFault("", NONE);
    dueFault("s;", NONE);
    dueFault("s;c1,0,0;", NONE);
    dueFault(HIGHEST + HIGHEST + HIGHEST, NONE);
    x.wipe();
    due("fault() of a wiped one", x.fault(), NONE);
  }

  private static void promise5() {
    promise(5, "LAID: how many STRATA; nothing can be UNDONE.");
    dueLaid(LEAST, 1);
    dueLaid(LEAST + SMALL, 2);
    dueLaid(HIGHEST + WIDEST + MIDDLE, 3);
    MarginTables x = new MarginTables();
    for (int v = 2; v <= 8; v++) {
      x.set(0, 0, 0, v);
    }
    tell(x, MIDDLE);
    due("count(5)", x.count(5), 6);
    due("lay()", x.lay(), 1);
    due("count(5) behind lay()", x.count(5), 0);
    due("undo() behind lay()", x.undo(), NO);
    dueColumn(x, 0, 0, 2, 1, 0);
    dueColumn(x, 0, 1, 2, 0, 1);
    dueColumn(x, 0, 2, 3, 2, 3);
    dueColumn(x, 0, 3, BAD, BAD, BAD);
    x.turn(0);
    due("undo() of what came behind lay()", x.undo(), 0);
    due("undo() ahead of it", x.undo(), NO);
    promise(5, "NO.");
    x.turn(0);
    x.write('x');
    due("lay() with a fault", x.lay(), NO);
    due("count(5) behind NO", x.count(5), 1);
    due("count(0) behind NO", x.count(0), 1);
    dueColumn(x, 0, 2, 3, 1, 3);
    due("undo() behind NO", x.undo(), 0);
    x.wipe();
    due("lay() of an empty text", x.lay(), NO);
    tell(x, "s;c1,0,0;");
    due("lay() of one column", x.lay(), NO);
    dueColumn(x, 0, 0, 2, 1, 0);
    due("rank(0) behind NO", x.rank(0), 3);
  }

  private static void promise6() {
    promise(6, "X (what = 0), SCORE (1) of a COLUMN: what it was.");
    MarginTables x = laid(SMALL + "s;c1,0,0;c12,0,9;c3,3,0;");
    due("set(1, 1, 0, 12)", x.set(1, 1, 0, 12), 0);
    due("set(1, 1, 0, 0)", x.set(1, 1, 0, 0), 12);
    due("set(1, 1, 1, 0)", x.set(1, 1, 1, 0), 9);
    due("set(1, 1, 1, 9)", x.set(1, 1, 1, 9), 0);
    due("set(1, 2, 0, 2)", x.set(1, 2, 0, 2), 3);
    due("stratum(1, 2)", x.stratum(1, 2), 2);
    promise(6, "BAD;");
    for (int n : FAR) {
      due("set(" + n + ", 0, 0, 0)", x.set(n, 0, 0, 0), BAD);
      due("set(0, " + n + ", 0, 0)", x.set(0, n, 0, 0), BAD);
      due("set(0, 0, " + n + ", 0)", x.set(0, 0, n, 0), BAD);
      due("set(0, 0, 0, " + n + ")", x.set(0, 0, 0, n), BAD);
      due("set(0, 0, 1, " + n + ")", x.set(0, 0, 1, n), BAD);
    }
    int[][] next = {{2, 0, 0, 0}, {0, 2, 0, 0}, {1, 3, 0, 0}, {0, 0, 2, 0}, {0, 0, 0, 3}, {1, 0, 0, 2},
      {1, 1, 0, 13}, {1, 2, 0, 4}, {0, 0, 1, 10}, {1, 1, 1, 10}, {0, 0, 0, -1}, {0, 0, 1, -1}};
    for (int[] n : next) {
      due("set(" + n[0] + ", " + n[1] + ", " + n[2] + ", " + n[3] + ")", x.set(n[0], n[1], n[2], n[3]), BAD);
    }
    promise(6, "NO: it is so.");
    x = laid("s;c1,0,0;c12,12,9;");
    due("set(0, 0, 0, 0)", x.set(0, 0, 0, 0), NO);
    due("set(0, 0, 1, 0)", x.set(0, 0, 1, 0), NO);
    due("set(0, 1, 0, 12)", x.set(0, 1, 0, 12), NO);
    due("set(0, 1, 1, 9)", x.set(0, 1, 1, 9), NO);
    due("count(5)", x.count(5), 0);
    due("set(0, 1, 0, 11)", x.set(0, 1, 0, 11), 12);
    due("set(0, 1, 0, 11)", x.set(0, 1, 0, 11), NO);
    x.undo();
    due("set(0, 1, 0, 12) undone", x.set(0, 1, 0, 12), NO);
  }

  private static void promise7() {
    promise(7, "MOVED from COLUMN a to COLUMN b: X of b.");
    MarginTables x = laid("s;c2,1,0;c3,2,1;c12,0,2;" + SMALL);
    due("move(0, 0, 1)", x.move(0, 0, 1), 3);
    due("move(0, 1, 2)", x.move(0, 1, 2), 1);
    due("move(0, 2, 0)", x.move(0, 2, 0), 1);
    due("stratum(0, 2)", x.stratum(0, 2), 3);
    promise(7, "BAD (alike, too);");
    for (int n : FAR) {
      due("move(" + n + ", 0, 1)", x.move(n, 0, 1), BAD);
      due("move(0, " + n + ", 1)", x.move(0, n, 1), BAD);
      due("move(0, 0, " + n + ")", x.move(0, 0, n), BAD);
      due("move(0, " + n + ", " + n + ")", x.move(0, n, n), BAD);
    }
    int[][] next = {{2, 0, 1}, {0, 3, 1}, {0, 0, 3}, {1, 2, 0}, {1, 0, 2}, {0, 0, 0}, {0, 1, 1}, {0, 2, 2}, {1, 1, 1}};
    for (int[] n : next) {
      due("move(" + n[0] + ", " + n[1] + ", " + n[2] + ")", x.move(n[0], n[1], n[2]), BAD);
    }
    due("count(5)", x.count(5), 3);
    promise(7, "NO: a has none ABOVE, b all.");
    x = laid("s;c2,0,0;c3,3,1;c12,1,2;c4,3,0;");
    due("move(0, 0, 2), a has none", x.move(0, 0, 2), NO);
    due("move(0, 2, 1), b all", x.move(0, 2, 1), NO);
    due("move(0, 0, 1), both", x.move(0, 0, 1), NO);
    due("count(5)", x.count(5), 0);
    due("move(0, 2, 3), the last of a, the last place of b", x.move(0, 2, 3), 4);
    due("move(0, 2, 0), a has none", x.move(0, 2, 0), NO);
    due("move(0, 1, 3), b all", x.move(0, 1, 3), NO);
    due("move(0, 3, 2)", x.move(0, 3, 2), 1);
    due("count(5)", x.count(5), 2);
  }

  private static void promise8() {
    promise(8, "TURNED: R.");
    due("turn(0), R 0", laid(LEAST).turn(0), 2);
    due("turn(0), R 60", laid(HIGHEST).turn(0), 0);
    due("turn(0), R 30", laid(WIDEST).turn(0), 30);
    MarginTables x = laid(SMALL + MIDDLE + ALL_ABOVE);
    due("turn(2)", x.turn(2), 0);
    due("turn(2)", x.turn(2), 7);
    due("stratum(0, 2)", x.stratum(0, 2), 2);
    promise(8, "BAD.");
    for (int n : FAR) {
      due("turn(" + n + ")", x.turn(n), BAD);
    }
    due("turn(3)", x.turn(3), BAD);
    due("turn(1) of one", laid(SMALL).turn(1), BAD);
    due("turn(2) of two", laid(SMALL + SMALL).turn(2), BAD);
    due("count(5)", x.count(5), 2);
  }

  private static void promise9() {
    promise(9, "UNDONE: how many more can be.");
    MarginTables x = new MarginTables();
    x.turn(1);
    due("undo() of one", x.undo(), 0);
    for (int change = 1; change <= 7; change++) {
      x.turn(change % 2);
      due("count(5)", x.count(5), Math.min(change, 6));
    }
    due("undo() of seven", x.undo(), 5);
    x.turn(0);
    due("count(5) told anew", x.count(5), 6);
    for (int left = 5; left >= 0; left--) {
      due("undo()", x.undo(), left);
    }
    // Stratum 1 was turned first, and that is out of reach.
    dueColumn(x, 0, 0, 8, 1, 0);
    dueColumn(x, 1, 0, 5, 4, 0);
    due("ways(1, 0)", x.ways(1, 0), 5 * 15);
    due("chance(1, 1, 0)", x.chance(1, 1, 0), 76);
    promise(9, "NO.");
    due("undo()", x.undo(), NO);
    dueColumn(x, 1, 0, 5, 4, 0);
    due("undo() at first", new MarginTables().undo(), NO);
    x.turn(0);
    x.undo();
    due("undo() of nothing more", x.undo(), NO);
  }

  // ---- Promises 10 to 17

  private static void promise10() {
    promise(10, "Of a COLUMN: T (what = 0), X (1), SCORE (2).");
    MarginTables x = laid("s;c1,0,0;c12,12,9;" + HIGHEST + LEAST);
    dueColumn(x, 0, 0, 1, 0, 0);
    dueColumn(x, 0, 1, 12, 12, 9);
    dueColumn(x, 1, 4, 12, 12, 9);
    dueColumn(x, 2, 1, 1, 0, 0);
    promise(10, "BAD.");
    for (int n : FAR) {
      due("column(" + n + ", 0, 0)", x.column(n, 0, 0), BAD);
      due("column(0, " + n + ", 0)", x.column(0, n, 0), BAD);
      due("column(0, 0, " + n + ")", x.column(0, 0, n), BAD);
    }
    int[][] next = {{3, 0, 0}, {0, 2, 0}, {1, 5, 0}, {2, 2, 0}, {0, 0, 3}, {1, 4, 3}, {0, 4, 0}};
    for (int[] n : next) {
      due("column(" + n[0] + ", " + n[1] + ", " + n[2] + ")", x.column(n[0], n[1], n[2]), BAD);
    }
  }

  private static void promise11() {
    promise(11, "Of a STRATUM: COLUMNS (what = 0), N (1), R (2), SUM of SEEN (3), how many TABLES there are (4), "
        + "the least SUM of one (5), the greatest one (6).");
    String[] texts = {LEAST, NONE_ABOVE, ALL_ABOVE, HIGHEST, SMALL, MIDDLE, "s;c2,2,9;c2,0,9;"};
    int[][] want = {{2, 2, 0, 0, 1, 0, 0}, {2, 7, 0, 0, 1, 0, 0}, {2, 7, 7, 63, 1, 63, 63},
      {5, 60, 60, 540, 1, 540, 540}, {2, 4, 2, 1, 3, 0, 2}, {3, 7, 3, 6, 8, 1, 9}, {2, 4, 2, 18, 3, 18, 18}};
    for (int i = 0; i < texts.length; i++) {
      MarginTables x = laid(SMALL + texts[i]);
      for (int what = 0; what < 7; what++) {
        due("stratum(1, " + what + ") of " + texts[i], x.stratum(1, what), want[i][what]);
      }
    }
    due("stratum(0, 4) of the widest", laid(WIDEST).stratum(0, 4), tablesOfWidest(5, 30));
    promise(11, "BAD.");
    MarginTables x = laid(SMALL + MIDDLE);
    for (int n : FAR) {
      due("stratum(" + n + ", 0)", x.stratum(n, 0), BAD);
      due("stratum(0, " + n + ")", x.stratum(0, n), BAD);
    }
    due("stratum(2, 0)", x.stratum(2, 0), BAD);
    due("stratum(0, 7)", x.stratum(0, 7), BAD);
    due("stratum(2, 7)", x.stratum(2, 7), BAD);
  }

  private static int tablesOfWidest(int columns, int above) {
    if (columns == 0) {
      return above == 0 ? 1 : 0;
    }
    int tables = 0;
    for (int number = 0; number <= 12 && number <= above; number++) {
      tables += tablesOfWidest(columns - 1, above - number);
    }
    return tables;
  }

  private static void promise12() {
    promise(12, "WAYS of a STRATUM: of SEEN (what = 0), ALL (1), the most of a TABLE (2), the fewest of one (3).");
    String[] texts = {NONE_ABOVE, HIGHEST, SMALL, MIDDLE, "s;c1,1,0;c12,3,0;", WIDEST};
    long most = 924L * 924 * 924 * 924 * 924;
    long[][] want = {{1, 1, 1, 1}, {1, 1, 1, 1}, {4, 6, 4, 1}, {6, 35, 12, 1}, {220, 715, 495, 220},
      {most, WIDEST_ALL, most, 924}};
    for (int i = 0; i < texts.length; i++) {
      MarginTables x = laid(texts[i]);
      for (int what = 0; what < 4; what++) {
        due("ways(0, " + what + ") of " + texts[i], x.ways(0, what), want[i][what]);
      }
    }
    promise(12, "BAD.");
    MarginTables x = laid(SMALL + MIDDLE);
    for (int n : FAR) {
      due("ways(" + n + ", 0)", x.ways(n, 0), BAD);
      due("ways(0, " + n + ")", x.ways(0, n), BAD);
    }
    due("ways(2, 0)", x.ways(2, 0), BAD);
    due("ways(0, 4)", x.ways(0, 4), BAD);
    due("ways(2, 4)", x.ways(2, 4), BAD);
  }

  private static void promise13() {
    promise(13, "CHANCE of a STRATUM by a LAW (0 to 2), in lowest terms: above (part = 0), below (1).");
    MarginTables x = laid(MIDDLE + "s;c3,1,2;c4,2,5;" + NONE_ABOVE);
    dueChance(x, 0, 0, 23, 35);
    dueChance(x, 0, 1, 13, 35);
    dueChance(x, 0, 2, 4, 5);
    dueChance(x, 1, 0, 1, 1);
    dueChance(x, 1, 1, 22, 35);
    dueChance(x, 1, 2, 31, 35);
    for (int law = 0; law < 3; law++) {
      dueChance(x, 2, law, 1, 1);
    }
    promise(13, "BAD.");
    for (int n : FAR) {
      due("chance(" + n + ", 0, 0)", x.chance(n, 0, 0), BAD);
      due("chance(0, " + n + ", 0)", x.chance(0, n, 0), BAD);
      due("chance(0, 0, " + n + ")", x.chance(0, 0, n), BAD);
    }
    int[][] next = {{3, 0, 0}, {0, 3, 0}, {0, 0, 2}, {2, 3, 1}, {2, 2, 2}, {3, 3, 2}};
    for (int[] n : next) {
      due("chance(" + n[0] + ", " + n[1] + ", " + n[2] + ")", x.chance(n[0], n[1], n[2]), BAD);
    }
  }

  private static void promise14() {
    promise(14, "JOINED by a LAW (1, 2), in lowest terms: above (part = 0), below (1).");
    MarginTables x = laid(MIDDLE + SMALL);
    dueJoined(x, 1, 5, 14);
    dueJoined(x, 2, 4, 5);
    dueJoined(laid(MIDDLE), 1, 13, 35);
    dueJoined(laid(MIDDLE), 2, 4, 5);
    dueJoined(laid(NONE_ABOVE + HIGHEST + MIDDLE), 1, 13, 35);
    dueJoined(laid(HIGHEST + HIGHEST + HIGHEST), 1, 1, 1);
    promise(14, "BAD; NONE.");
    for (int n : FAR) {
      due("joined(" + n + ", 0)", x.joined(n, 0), BAD);
      due("joined(1, " + n + ")", x.joined(1, n), BAD);
    }
    int[][] next = {{0, 0}, {3, 0}, {1, 2}, {2, 2}, {0, 1}, {3, 1}, {0, 2}};
    MarginTables tooMany = laid(WIDEST + WIDEST);
    for (int[] n : next) {
      due("joined(" + n[0] + ", " + n[1] + ")", x.joined(n[0], n[1]), BAD);
      due("joined(" + n[0] + ", " + n[1] + ") of too many", tooMany.joined(n[0], n[1]), BAD);
    }
    dueJoined(tooMany, 1, NONE, NONE);
    dueJoined(tooMany, 2, NONE, NONE);
    // Told anew (R 6, then 1) it is there, undone it is none again.
    for (int j = 0; j < 4; j++) {
      tooMany.set(1, j, 0, 0);
    }
    dueJoined(tooMany, 1, NONE, NONE);
    tooMany.set(1, 4, 0, 1);
    dueJoined(tooMany, 1, 1, 1);
    tooMany.undo();
    dueJoined(tooMany, 1, NONE, NONE);
  }

  private static void promise15() {
    promise(15, "How many TABLES of a STRATUM are STRANGE by a LAW (0 to 2).");
    MarginTables x = laid(MIDDLE + SMALL + HIGHEST);
    int[][] want = {{7, 3, 6}, {3, 2, 2}, {1, 1, 1}};
    for (int s = 0; s < 3; s++) {
      for (int law = 0; law < 3; law++) {
        due("strange(" + s + ", " + law + ")", x.strange(s, law), want[s][law]);
      }
    }
    MarginTables widest = laid(WIDEST);
    for (int law = 0; law < 3; law++) {
      due("strange(0, " + law + ") of the widest", widest.strange(0, law), tablesOfWidest(5, 30));
    }
    promise(15, "BAD.");
    for (int n : FAR) {
      due("strange(" + n + ", 0)", x.strange(n, 0), BAD);
      due("strange(0, " + n + ")", x.strange(0, n), BAD);
    }
    due("strange(3, 0)", x.strange(3, 0), BAD);
    due("strange(0, 3)", x.strange(0, 3), BAD);
    due("strange(3, 3)", x.strange(3, 3), BAD);
    due("strange(1, 0) of one", widest.strange(1, 0), BAD);
  }

  private static void promise16() {
    promise(16, "Of a NODE: AHEAD (what = 0), BEHIND (1), LONGEST (2), SHORTEST (3).");
    MarginTables x = laid(MIDDLE + NONE_ABOVE);
    dueNode(x, 1, 1, 2, 10, 6, 1);
    dueNode(x, 2, 2, 6, 3, 3, 3);
    for (int j = 0; j <= 2; j++) {
      for (int what = 0; what < 4; what++) {
        due("node(1, " + j + ", 0, " + what + ")", x.node(1, j, 0, what), 1);
      }
    }
    promise(16, "BAD (j beyond its COLUMNS, a below 0 or above R);");
    for (int n : FAR) {
      due("node(" + n + ", 0, 0, 0)", x.node(n, 0, 0, 0), BAD);
      due("node(0, " + n + ", 0, 0)", x.node(0, n, 0, 0), BAD);
      due("node(0, 1, " + n + ", 0)", x.node(0, 1, n, 0), BAD);
      due("node(0, 0, 0, " + n + ")", x.node(0, 0, 0, n), BAD);
    }
    int[][] next = {{2, 0, 0, 0}, {0, 4, 0, 0}, {0, 4, 3, 0}, {1, 3, 0, 0}, {0, -1, 0, 0}, {0, 3, -1, 0},
      {0, 1, -1, 0}, {0, 0, 4, 0}, {0, 3, 4, 0}, {1, 0, 1, 0}, {1, 2, 1, 0}, {0, 0, 0, 4}, {0, 3, 3, 4}};
    for (int[] n : next) {
      due("node(" + n[0] + ", " + n[1] + ", " + n[2] + ", " + n[3] + ")", x.node(n[0], n[1], n[2], n[3]), BAD);
    }
    due("node(0, 3, 3, 0) of R 3", x.node(0, 3, 3, 0), 35);
    promise(16, "NONE: it is not there.");
    int[][] none = {{0, 1}, {0, 2}, {0, 3}, {1, 3}, {3, 0}, {3, 1}, {3, 2}};
    for (int[] n : none) {
      dueNode(x, n[0], n[1], NONE);
    }
    // With R the nodes come and go.
    x.set(0, 0, 0, 0);
    dueNode(x, 3, 2, 21, 1, 1, 1);
    dueNode(x, 3, 3, BAD);
    dueNode(x, 2, 2, 6, 1, 1, 1);
    x.undo();
    dueNode(x, 3, 2, NONE);
    dueNode(x, 3, 3, 35, 1, 1, 1);
  }

  private static void promise17() {
    promise(17, "LOOKS of a STRATUM (what = 0); how many it would LOOK at, were it always to go on (1).");
    due("looks(0, 1), one table of two columns", laid(NONE_ABOVE).looks(0, 1), 2);
    due("looks(0, 1), one table of five columns", laid(HIGHEST).looks(0, 1), 5);
    due("looks(0, 1)", laid(SMALL).looks(0, 1), 6);
    due("looks(0, 1)", laid(MIDDLE).looks(0, 1), 3 + 8 + 8);
    int always = 0;
    for (int columns = 1; columns <= 5; columns++) {
      always += rowsOfWidest(columns);
    }
    due("looks(0, 1) of the widest", laid(WIDEST).looks(0, 1), always);
    MarginTables x = laid(MIDDLE + NONE_ABOVE);
    due("looks(0, 0)", x.looks(0, 0), 6);
    due("looks(1, 0)", x.looks(1, 0), 1);
    promise(17, "BAD.");
    for (int n : FAR) {
      due("looks(" + n + ", 0)", x.looks(n, 0), BAD);
      due("looks(0, " + n + ")", x.looks(0, n), BAD);
    }
    due("looks(2, 0)", x.looks(2, 0), BAD);
    due("looks(2, 1)", x.looks(2, 1), BAD);
    due("looks(0, 2)", x.looks(0, 2), BAD);
  }

  /** How many rows of numbers for the first columns can be ahead of a table of the widest. */
  private static int rowsOfWidest(int columns) {
    int rows = 0;
    for (int above = 0; above <= 30; above++) {
      if (30 - above <= 12 * (5 - columns)) {
        rows += tablesOfWidest(columns, above);
      }
    }
    return rows;
  }

  // ---- Promises 18 to 21

  private static void promise18() {
    promise(18, "The number of COLUMN j in TABLE t of a STRATUM.");
    MarginTables x = laid(MIDDLE + NONE_ABOVE + HIGHEST);
    int[][] want = {{0, 0, 3}, {0, 1, 2}, {0, 2, 1}, {1, 0, 2}, {1, 1, 1}, {1, 2, 0}, {2, 0, 1}, {2, 1, 0}};
    for (int t = 0; t < want.length; t++) {
      for (int j = 0; j < 3; j++) {
        due("table(0, " + t + ", " + j + ")", x.table(0, t, j), want[t][j]);
      }
    }
    due("table(1, 0, 1), none above", x.table(1, 0, 1), 0);
    due("table(2, 0, 4), all above", x.table(2, 0, 4), 12);
    MarginTables widest = laid(WIDEST);
    int last = tablesOfWidest(5, 30) - 1;
    int[] first = {0, 0, 6, 12, 12};
    for (int j = 0; j < 5; j++) {
      due("table(0, 0, " + j + ") of the widest", widest.table(0, 0, j), first[j]);
      due("table(0, " + last + ", " + j + ") of the widest", widest.table(0, last, j), first[4 - j]);
    }
    promise(18, "BAD.");
    due("table(0, " + (last + 1) + ", 0) of the widest", widest.table(0, last + 1, 0), BAD);
    for (int n : FAR) {
      due("table(" + n + ", 0, 0)", x.table(n, 0, 0), BAD);
      due("table(0, " + n + ", 0)", x.table(0, n, 0), BAD);
      due("table(0, 0, " + n + ")", x.table(0, 0, n), BAD);
    }
    int[][] next = {{3, 0, 0}, {0, 8, 0}, {1, 1, 0}, {2, 1, 0}, {0, 0, 3}, {1, 0, 2}, {2, 0, 5}, {0, 8, 3}};
    for (int[] n : next) {
      due("table(" + n[0] + ", " + n[1] + ", " + n[2] + ")", x.table(n[0], n[1], n[2]), BAD);
    }
  }

  private static void promise19() {
    promise(19, "Which TABLE SEEN is.");
    due("rank(0), none above", laid(NONE_ABOVE).rank(0), 0);
    due("rank(0), all above", laid(HIGHEST).rank(0), 0);
    due("rank(0)", laid(MIDDLE).rank(0), 3);
    int last = tablesOfWidest(5, 30) - 1;
    due("rank(0), the first of the widest", laid("s;c12,0,0;c12,0,0;c12,6,0;c12,12,0;c12,12,0;").rank(0), 0);
    due("rank(0), the last of the widest", laid("s;c12,12,0;c12,12,0;c12,6,0;c12,0,0;c12,0,0;").rank(0), last);
    due("rank(0), the middle of the widest", laid(WIDEST).rank(0), last / 2);
    promise(19, "BAD.");
    MarginTables x = laid(MIDDLE + SMALL);
    for (int n : FAR) {
      due("rank(" + n + ")", x.rank(n), BAD);
    }
    due("rank(2)", x.rank(2), BAD);
    due("rank(1)", x.rank(1), 1);
  }

  private static void promise20() {
    promise(20, "The number of COLUMN j in that TABLE of a STRATUM that has most WAYS, of several the first.");
    // Of (0, 1) and (1, 0) the first, of (1, 2) and (2, 1) too; of five of equal ways (0, 0, 0, 0, 1).
    MarginTables x = laid("s;c2,1,0;c2,0,0;s;c3,3,0;c3,0,0;s;c1,1,0;c1,0,0;c1,0,0;c1,0,0;c1,0,0;");
    int[][] want = {{0, 1}, {1, 2}, {0, 0, 0, 0, 1}};
    for (int s = 0; s < 3; s++) {
      for (int j = 0; j < want[s].length; j++) {
        due("likeliest(" + s + ", " + j + ")", x.likeliest(s, j), want[s][j]);
      }
    }
    for (int j = 0; j < 5; j++) {
      due("likeliest(0, " + j + ") of the widest", laid(WIDEST).likeliest(0, j), 6);
      due("likeliest(0, " + j + "), all above", laid(HIGHEST).likeliest(0, j), 12);
    }
    due("likeliest(0, 1), none above", laid(NONE_ABOVE).likeliest(0, 1), 0);
    promise(20, "BAD.");
    for (int n : FAR) {
      due("likeliest(" + n + ", 0)", x.likeliest(n, 0), BAD);
      due("likeliest(0, " + n + ")", x.likeliest(0, n), BAD);
    }
    due("likeliest(3, 0)", x.likeliest(3, 0), BAD);
    due("likeliest(0, 2)", x.likeliest(0, 2), BAD);
    due("likeliest(2, 5)", x.likeliest(2, 5), BAD);
  }

  private static void promise21() {
    promise(21, "How many: 0 STRATA, 1 COLUMNS of all, 2 N of all together, 3 R of all together, "
        + "4 SUMS of all SEEN together, 5 changes that can be UNDONE, 6 letters of THE TEXT.");
    String[] texts = {LEAST, HIGHEST + HIGHEST + HIGHEST, MIDDLE + SMALL, NONE_ABOVE + LEAST};
    int[][] want = {{1, 2, 2, 0, 0, 0, 16}, {3, 15, 180, 180, 1620, 0, 141}, {2, 5, 11, 5, 7, 0, 39},
      {2, 4, 9, 0, 0, 0, 32}};
    for (int i = 0; i < texts.length; i++) {
      MarginTables x = laid(texts[i]);
      for (int what = 0; what < 7; what++) {
        due("count(" + what + ") of " + texts[i], x.count(what), want[i][what]);
      }
    }
    MarginTables x = laid(HIGHEST + SMALL);
    for (int change = 1; change <= 8; change++) {
      x.turn(0);
      due("count(5) behind " + change, x.count(5), Math.min(change, 6));
    }
    x.turn(0);
    due("count(3) turned", x.count(3), 2);
    due("count(4) turned", x.count(4), 1);
    promise(21, "BAD.");
    for (int n : FAR) {
      due("count(" + n + ")", x.count(n), BAD);
    }
    due("count(7)", x.count(7), BAD);
    due("count(-1)", x.count(-1), BAD);
  }

  // ---- each sentence has its test

  private static Map<String, String> readDocument() throws IOException {
    Map<String, String> places = new LinkedHashMap<>();
    for (String part : Files.readString(DOCUMENT).split("(?m)^## ")) {
      String[] headAndText = part.split("\n", 2);
      String place = headAndText[0].replaceAll(":.*", "").trim();
      String text = headAndText.length < 2 ? "" : headAndText[1];
      places.put(place, text.replaceAll("\\s+", " "));
    }
    return places;
  }

  /** What binds the text together and is no sentence: the signature, marks, and what LanguageTest looks after. */
  private static String withoutMarks(String text) {
    return text.replaceAll("Ahead of the calls (`\\w+`(, )?)+ the interface says: ---- [a-z ]+\\.", " ")
        .replaceAll("`[^`]*\\([^`]*\\)`:", " ").replaceAll("```(text)?", " ").replaceAll("=+ \\d ", " ");
  }

  private static void checkSentences() throws IOException {
    Map<String, String> places = readDocument();
    for (Map.Entry<String, List<String>> named : NAMED.entrySet()) {
      String rest = withoutMarks(places.getOrDefault(named.getKey(), "")).replaceAll("\\s+", " ");
      named.getValue().sort((a, b) -> b.length() - a.length());
      for (String sentence : named.getValue()) {
        int at = rest.indexOf(sentence);
        if (at < 0) {
          fault("the document does not say under " + named.getKey() + ": " + sentence);
        } else {
          rest = rest.substring(0, at) + "|" + rest.substring(at + sentence.length());
        }
      }
      if (rest.matches(".*[A-Za-z0-9].*")) {
        fault("no test for this under " + named.getKey() + ": " + rest);
      }
    }
    for (String place : places.keySet()) {
      if (!NAMED.containsKey(place) && !place.equals("# MarginTables") && !place.equals("The public face")) {
        fault("no test for anything under " + place);
      }
    }
    if (asked == 0) {
      fault("no call for " + told);
    }
    if (NAMED.size() != 24) {
      fault("the places are " + NAMED.keySet());
    }
  }

  public static void main(String[] args) throws IOException {
    overview();
    use();
    testTerms();
    testPromises();
    whatIsFree();
    checkSentences();
    System.out.println(wrong == 0 ? "each sentence holds at its boundaries" : wrong + " faults");
    if (wrong != 0) {
      System.exit(1);
    }
  }

  private static void testTerms() {
    strataAndColumns();
    letters();
    items();
    nextStratum();
    nextColumn();
    faults();
    laidTexts();
    allTogether();
    tables();
    waysOfTables();
    allWays();
    numbersOfTables();
    sums();
    strangeOnes();
    chances();
    joinedStrata();
    tooManyJoined();
    nodes();
    nodesThatAreThere();
    waysByNodes();
    walks();
    lastNode();
    moved();
    turned();
    changes();
    undone();
    badNumbers();
    notAsThingsStand();
    thereIsNone();
    full();
    orderOfAnswers();
    textStays();
  }

  private static void testPromises() {
    promise1();
    promise2();
    promise3();
    promise4();
    promise5();
    promise6();
    promise7();
    promise8();
    promise9();
    promise10();
    promise11();
    promise12();
    promise13();
    promise14();
    promise15();
    promise16();
    promise17();
    promise18();
    promise19();
    promise20();
    promise21();
  }
}
