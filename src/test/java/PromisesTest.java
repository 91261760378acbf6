/** One function a promise: ordinary inputs, the edges that the document names, and wrong inputs. */
public final class PromisesTest {
  private static final int BAD = MarginTables.BAD;
  private static final int NO = MarginTables.NO;
  private static final int FULL = MarginTables.FULL;
  private static final int NONE = MarginTables.NONE;

  // Tables: (0, 2) of 1 way and sum 2, (1, 1) of 4 ways and sum 1, seen, (2, 0) of 1 way and sum 0.
  private static final String SMALL = "s;c2,1,0;c2,1,1;";
  // Tables with their ways and sums: (0, 0, 3) 1, 9; (0, 1, 2) 6, 7; (0, 2, 1) 3, 5; (1, 0, 2) 6, 6, seen;
  // (1, 1, 1) 12, 4; (1, 2, 0) 2, 2; (2, 0, 1) 3, 3; (2, 1, 0) 2, 1.
  private static final String MIDDLE = "s;c2,1,0;c2,0,1;c3,2,3;";
  private static final String GREAT = "s;c12,6,0;c12,6,1;c12,6,2;c12,6,3;c12,6,9;";
  private static final int[] EXTREMES =
      {-1, -2, Integer.MIN_VALUE, Integer.MAX_VALUE, 100, 1000000, -1000000};

  private static int wrong = 0;
  private static int promise = 0;

  private static void due(String call, long got, long want) {
    if (got != want) {
      wrong++;
      System.out.println("promise " + promise + ": " + call + " answered " + got + ", due is " + want);
    }
  }

  private static void tell(MarginTables x, String text) {
    for (int i = 0; i < text.length(); i++) {
      x.write(text.charAt(i));
    }
  }

  private static MarginTables laid(String text) {
    MarginTables x = new MarginTables();
    tell(x, text);
    x.lay();
    return x;
  }

  private static int faultOf(String text) {
    MarginTables x = new MarginTables();
    tell(x, text);
    return x.fault();
  }

  private static int layOf(String text) {
    MarginTables x = new MarginTables();
    tell(x, text);
    return x.lay();
  }

  public static void main(String[] args) {
    promise1();
    promise2();
    promise3();
    promise4();
    promise5();
    promise6();
    promise7();
    promise8();
    promise9();
    promise10();
    promise11();
    promise12();
    promise13();
    promise14();
    promise15();
    promise16();
    promise17();
    promise18();
    promise19();
    promise20();
    promise21();
    System.out.println(wrong == 0 ? "all answers are as due" : wrong + " answers are not as due");
    if (wrong != 0) {
      System.exit(1);
    }
  }

  private static void promise1() {
    promise = 1;
    MarginTables x = new MarginTables();
    int[][] told = {{8, 1, 0}, {7, 3, 1}, {9, 6, 2}, {6, 5, 3}};
    for (int j = 0; j < 4; j++) {
      for (int what = 0; what < 3; what++) {
        due("column(0, " + j + ", " + what + ")", x.column(0, j, what), told[j][what]);
      }
    }
    due("column(1, 0, 0)", x.column(1, 0, 0), 5);
    due("column(1, 0, 1)", x.column(1, 0, 1), 1);
    due("column(1, 0, 2)", x.column(1, 0, 2), 0);
    due("column(1, 1, 0)", x.column(1, 1, 0), 6);
    due("column(1, 1, 1)", x.column(1, 1, 1), 4);
    due("column(1, 1, 2)", x.column(1, 1, 2), 2);
    due("count(0)", x.count(0), 2);
    due("count(5)", x.count(5), 0);
    due("count(6)", x.count(6), 0);
    due("undo()", x.undo(), NO);
    due("fault()", x.fault(), NONE);
    due("lay()", x.lay(), NO);
  }

  private static void promise2() {
    promise = 2;
    MarginTables x = new MarginTables();
    due("write(31)", x.write(31), BAD);
    due("write(127)", x.write(127), BAD);
    due("write(32)", x.write(32), 1);
    due("write(126)", x.write(126), 2);
    for (int n : EXTREMES) {
      if (n != 100) {
        due("write(" + n + ")", x.write(n), BAD);
      }
    }
    for (int n = 3; n <= 200; n++) {
      due("write(65)", x.write(65), n);
    }
    due("write(65) beyond 200", x.write(65), FULL);
    due("write(31) beyond 200", x.write(31), BAD);
    due("count(6)", x.count(6), 200);
    due("wipe()", x.wipe(), 200);
    due("write(65)", x.write(65), 1);
  }

  private static void promise3() {
    promise = 3;
    MarginTables x = new MarginTables();
    due("wipe()", x.wipe(), 0);
    tell(x, SMALL);
    due("lay()", x.lay(), 1);
    due("wipe()", x.wipe(), SMALL.length());
    due("wipe()", x.wipe(), 0);
    due("count(6)", x.count(6), 0);
    due("count(0)", x.count(0), 1);
    due("lay()", x.lay(), NO);
    tell(x, "s;c3");
    due("wipe()", x.wipe(), 4);
    tell(x, "s;");
    due("fault()", x.fault(), NONE);
  }

  private static void promise4() {
    promise = 4;
    String[] faultless = {"", "s;", "s;s;s;", SMALL, MIDDLE, GREAT, "s;c1,0,0;", "s;c12,12,9;",
      "s;c01,00,00;", "s;c08,3,09;", GREAT + GREAT + GREAT, "s;c1,1,1;s;s;c2,2,2;"};
    for (String text : faultless) {
      due("fault() of " + text, faultOf(text), NONE);
    }
    String[] atTwo = {"s;c0,0,0;", "s;c13,0,0;", "s;c5,6,0;", "s;c5,0,10;", "s;c5,5,5", "s;c5,5", "s;c",
      "s;;", "s; ", "s;x;", "s;c;", "s;c5;", "s;c5,;", "s;c5,5;", "s;c5,5,;", "s;c,5,5;", "s;c5,,5;",
      "s;c5,5,5,;", "s;c5,5,5 ;", "s; c5,5,5;", "s;c125,5;", "s;c5,055;", "s;c005,5,5;", "s;c5,005,5;",
      "s;c5,5,005;", "s;c-5,5,5;",
      "s;C5,5,5;", "s;S;", "s;ss;", "s;s", "s;s1;", "s;c5.5,5;", "s;c5;5,5;", "s;c99,0,0;", "s;c5,5,5:"};
    for (String text : atTwo) {
      due("fault() of " + text, faultOf(text), 2);
    }
    String[] atZero = {"s", ";", " ", "c1,0,0;", "c1,0,0;s;", "x", "s ;", "S;", ",s;"};
    for (String text : atZero) {
      due("fault() of " + text, faultOf(text), 0);
    }
    due("fault() of four strata", faultOf("s;s;s;s;"), 6);
    String five = "s;c1,0,0;c1,0,0;c1,0,0;c1,0,0;c1,0,0;";
    due("fault() of six columns", faultOf(five + "c1,0,0;"), 37);
    due("fault() of six columns in the second stratum", faultOf(SMALL + five + "c1,0,0;"), 53);
    due("fault() of the first of two", faultOf("s;c1,0,0;c1,2,0;c0,0,0;"), 9);
    due("fault() of an end without ;", faultOf("s;c1,0,0;c1,2"), 9);
    MarginTables x = new MarginTables();
    tell(x, "s;c5,6,0;");
    due("fault()", x.fault(), 2);
    due("fault() again", x.fault(), 2);
    due("count(6)", x.count(6), 9);
    due("count(2)", x.count(2), 41);
  }

  private static void promise5() {
    promise = 5;
    due("lay() of one", layOf(SMALL), 1);
    due("lay() of two", layOf(SMALL + MIDDLE), 2);
    due("lay() of three", layOf(GREAT + SMALL + MIDDLE), 3);
    String[] not = {"", "s;", "s;c1,0,0;", "s;c1,0,0;c1,0,0;s;", SMALL + "s;c5,5,5;", "s;c5,5,5;" + SMALL,
      SMALL + "x", SMALL + "s", "s;c2,1,0;c2,3,1;", "s;s;s;s;"};
    for (String text : not) {
      due("lay() of " + text, layOf(text), NO);
    }
    MarginTables x = new MarginTables();
    due("turn(0)", x.turn(0), 15);
    tell(x, "s;c4,2,1;c3,1,2;c2");
    due("lay()", x.lay(), NO);
    due("count(5) behind NO", x.count(5), 1);
    due("count(0) behind NO", x.count(0), 2);
    due("column(0, 0, 1) behind NO", x.column(0, 0, 1), 7);
    due("count(6) behind NO", x.count(6), 18);
    tell(x, ",2,2;");
    due("lay()", x.lay(), 1);
    due("count(6)", x.count(6), 23);
    due("count(5)", x.count(5), 0);
    due("undo()", x.undo(), NO);
    due("count(0)", x.count(0), 1);
    due("stratum(0, 0)", x.stratum(0, 0), 3);
    due("column(0, 0, 0)", x.column(0, 0, 0), 4);
    due("column(0, 1, 1)", x.column(0, 1, 1), 1);
    due("column(0, 2, 2)", x.column(0, 2, 2), 2);
    due("stratum(1, 0)", x.stratum(1, 0), BAD);
    due("move(0, 0, 1)", x.move(0, 0, 1), 2);
    due("lay() again", x.lay(), 1);
    due("column(0, 1, 1)", x.column(0, 1, 1), 1);
    due("undo()", x.undo(), NO);
    x.wipe();
    tell(x, SMALL + MIDDLE);
    due("lay() of more", x.lay(), 2);
    due("stratum(1, 0)", x.stratum(1, 0), 3);
    due("stratum(0, 0)", x.stratum(0, 0), 2);
  }

  private static void promise6() {
    promise = 6;
    MarginTables x = new MarginTables();
    due("set(0, 0, 0, 1)", x.set(0, 0, 0, 1), NO);
    due("set(0, 0, 1, 0)", x.set(0, 0, 1, 0), NO);
    due("count(5)", x.count(5), 0);
    due("set(0, 0, 0, 8)", x.set(0, 0, 0, 8), 1);
    due("set(0, 0, 0, 0)", x.set(0, 0, 0, 0), 8);
    due("set(0, 3, 1, 9)", x.set(0, 3, 1, 9), 3);
    due("set(0, 3, 1, 0)", x.set(0, 3, 1, 0), 9);
    due("set(1, 1, 0, 6)", x.set(1, 1, 0, 6), 4);
    due("count(5)", x.count(5), 5);
    due("column(0, 0, 1)", x.column(0, 0, 1), 0);
    due("column(0, 3, 2)", x.column(0, 3, 2), 0);
    due("stratum(0, 2)", x.stratum(0, 2), 14);
    due("stratum(1, 2)", x.stratum(1, 2), 7);
    int[][] bad = {{0, 0, 0, 9}, {0, 0, 0, -1}, {0, 0, 1, 10}, {0, 0, 1, -1}, {0, 0, 2, 1}, {0, 0, -1, 1},
      {0, 4, 0, 1}, {0, -1, 0, 1}, {2, 0, 0, 1}, {-1, 0, 0, 1}, {1, 2, 0, 0}, {1, 0, 0, 6}, {0, 0, 2, 0}};
    for (int[] b : bad) {
      due("set, wrong", x.set(b[0], b[1], b[2], b[3]), BAD);
    }
    for (int n : EXTREMES) {
      due("set, extreme s", x.set(n, 0, 0, 1), BAD);
      due("set, extreme j", x.set(0, n, 0, 1), BAD);
      due("set, extreme what", x.set(0, 0, n, 1), BAD);
      due("set, extreme v", x.set(0, 0, 0, n), BAD);
      due("set, extreme score", x.set(0, 0, 1, n), BAD);
    }
    due("count(5)", x.count(5), 5);
  }

  private static void promise7() {
    promise = 7;
    MarginTables x = laid("s;c2,1,0;c3,2,1;c4,0,2;" + SMALL);
    due("move(0, 0, 1)", x.move(0, 0, 1), 3);
    due("column(0, 0, 1)", x.column(0, 0, 1), 0);
    due("column(0, 1, 1)", x.column(0, 1, 1), 3);
    due("move(0, 0, 2)", x.move(0, 0, 2), NO);
    due("move(0, 2, 1)", x.move(0, 2, 1), NO);
    due("move(0, 0, 1)", x.move(0, 0, 1), NO);
    due("move(0, 1, 2)", x.move(0, 1, 2), 1);
    due("move(0, 2, 1)", x.move(0, 2, 1), 3);
    due("move(1, 1, 0)", x.move(1, 1, 0), 2);
    due("move(1, 1, 0)", x.move(1, 1, 0), NO);
    due("count(5)", x.count(5), 4);
    due("stratum(0, 2)", x.stratum(0, 2), 3);
    due("move(0, 0, 0)", x.move(0, 0, 0), BAD);
    due("move(0, 1, 1)", x.move(0, 1, 1), BAD);
    due("move(0, 0, 3)", x.move(0, 0, 3), BAD);
    due("move(0, 3, 0)", x.move(0, 3, 0), BAD);
    due("move(0, 3, 3)", x.move(0, 3, 3), BAD);
    due("move(1, 0, 2)", x.move(1, 0, 2), BAD);
    due("move(2, 0, 1)", x.move(2, 0, 1), BAD);
    for (int n : EXTREMES) {
      due("move, extreme s", x.move(n, 1, 2), BAD);
      due("move, extreme a", x.move(0, n, 2), BAD);
      due("move, extreme b", x.move(0, 1, n), BAD);
    }
    due("count(5)", x.count(5), 4);
  }

  private static void promise8() {
    promise = 8;
    MarginTables x = laid(MIDDLE + SMALL + "s;c5,0,0;c7,0,1;");
    due("turn(0)", x.turn(0), 4);
    due("column(0, 0, 1)", x.column(0, 0, 1), 1);
    due("column(0, 1, 1)", x.column(0, 1, 1), 2);
    due("column(0, 2, 1)", x.column(0, 2, 1), 1);
    due("turn(1)", x.turn(1), 2);
    due("turn(2)", x.turn(2), 12);
    due("turn(2)", x.turn(2), 0);
    due("turn(3)", x.turn(3), BAD);
    // Upside down it stands as it stood, but it is a change all the same.
    due("count(5)", x.count(5), 4);
    due("count(3)", x.count(3), 6);
    for (int n : EXTREMES) {
      due("turn, extreme", x.turn(n), BAD);
    }
    due("count(5)", x.count(5), 4);
  }

  private static void promise9() {
    promise = 9;
    MarginTables x = new MarginTables();
    due("undo()", x.undo(), NO);
    due("set(0, 0, 0, 2)", x.set(0, 0, 0, 2), 1);
    due("set(0, 1, 1, 7)", x.set(0, 1, 1, 7), 1);
    due("move(1, 1, 0)", x.move(1, 1, 0), 2);
    due("turn(0)", x.turn(0), 14);
    due("undo()", x.undo(), 3);
    due("column(0, 0, 1)", x.column(0, 0, 1), 2);
    due("column(0, 3, 1)", x.column(0, 3, 1), 5);
    due("undo()", x.undo(), 2);
    due("column(1, 0, 1)", x.column(1, 0, 1), 1);
    due("column(1, 1, 1)", x.column(1, 1, 1), 4);
    due("column(0, 1, 2)", x.column(0, 1, 2), 7);
    due("undo()", x.undo(), 1);
    due("column(0, 1, 2)", x.column(0, 1, 2), 1);
    due("undo()", x.undo(), 0);
    due("column(0, 0, 1)", x.column(0, 0, 1), 1);
    due("undo()", x.undo(), NO);
    // Eight changes: the first two stay.
    for (int v = 2; v <= 8; v++) {
      due("set(0, 0, 0, " + v + ")", x.set(0, 0, 0, v), v - 1);
      due("count(5)", x.count(5), Math.min(6, v - 1));
    }
    due("turn(1)", x.turn(1), 6);
    due("count(5)", x.count(5), 6);
    due("undo()", x.undo(), 5);
    due("stratum(1, 2)", x.stratum(1, 2), 5);
    due("undo()", x.undo(), 4);
    due("column(0, 0, 1)", x.column(0, 0, 1), 7);
    due("set(1, 0, 1, 5)", x.set(1, 0, 1, 5), 0);
    for (int left = 4; left >= 0; left--) {
      due("undo()", x.undo(), left);
    }
    due("column(0, 0, 1)", x.column(0, 0, 1), 3);
    due("column(1, 0, 2)", x.column(1, 0, 2), 0);
    due("undo()", x.undo(), NO);
    due("column(0, 0, 1)", x.column(0, 0, 1), 3);
    due("ways(0, 0)", x.ways(0, 0), 56L * 35 * 84 * 6);
  }

  private static void promise10() {
    promise = 10;
    MarginTables x = laid("s;c12,11,9;c1,0,8;" + MIDDLE);
    due("column(0, 0, 0)", x.column(0, 0, 0), 12);
    due("column(0, 0, 1)", x.column(0, 0, 1), 11);
    due("column(0, 0, 2)", x.column(0, 0, 2), 9);
    due("column(0, 1, 0)", x.column(0, 1, 0), 1);
    due("column(0, 1, 1)", x.column(0, 1, 1), 0);
    due("column(0, 1, 2)", x.column(0, 1, 2), 8);
    due("column(1, 2, 0)", x.column(1, 2, 0), 3);
    due("column(0, 2, 0)", x.column(0, 2, 0), BAD);
    due("column(1, 3, 0)", x.column(1, 3, 0), BAD);
    due("column(2, 0, 0)", x.column(2, 0, 0), BAD);
    due("column(0, 0, 3)", x.column(0, 0, 3), BAD);
    for (int n : EXTREMES) {
      due("column, extreme s", x.column(n, 0, 0), BAD);
      due("column, extreme j", x.column(0, n, 0), BAD);
      due("column, extreme what", x.column(0, 0, n), BAD);
    }
  }

  private static void promise11() {
    promise = 11;
    MarginTables x = laid(MIDDLE + SMALL + GREAT);
    int many = tablesOfEqualColumns(5, 12, 30);
    long[][] want = {{3, 7, 3, 6, 8, 1, 9}, {2, 4, 2, 1, 3, 0, 2}, {5, 60, 30, 90, many, 24, 156}};
    for (int s = 0; s < 3; s++) {
      for (int what = 0; what < 7; what++) {
        due("stratum(" + s + ", " + what + ")", x.stratum(s, what), want[s][what]);
      }
    }
    due("stratum(0, 7)", x.stratum(0, 7), BAD);
    due("stratum(3, 0)", x.stratum(3, 0), BAD);
    for (int n : EXTREMES) {
      due("stratum, extreme s", x.stratum(n, 0), BAD);
      due("stratum, extreme what", x.stratum(0, n), BAD);
    }
    MarginTables none = laid("s;c3,0,9;c4,0,9;");
    due("stratum(0, 4) of none above", none.stratum(0, 4), 1);
    due("stratum(0, 5) of none above", none.stratum(0, 5), 0);
    due("stratum(0, 6) of none above", none.stratum(0, 6), 0);
    MarginTables most = laid("s;c12,12,9;c12,12,9;c12,12,9;c12,12,9;c12,12,9;");
    due("stratum(0, 3) of all above", most.stratum(0, 3), 540);
    due("stratum(0, 4) of all above", most.stratum(0, 4), 1);
    due("stratum(0, 5) of all above", most.stratum(0, 5), 540);
    due("stratum(0, 6) of all above", most.stratum(0, 6), 540);
  }

  private static int tablesOfEqualColumns(int columns, int total, int above) {
    if (columns == 0) {
      return above == 0 ? 1 : 0;
    }
    int tables = 0;
    for (int number = 0; number <= total && number <= above; number++) {
      tables += tablesOfEqualColumns(columns - 1, total, above - number);
    }
    return tables;
  }

  private static void promise12() {
    promise = 12;
    MarginTables x = laid(MIDDLE + SMALL + GREAT);
    long[][] want = {{6, 35, 12, 1}, {4, 6, 4, 1},
      {924L * 924 * 924 * 924 * 924, 118264581564861424L, 924L * 924 * 924 * 924 * 924, 924}};
    for (int s = 0; s < 3; s++) {
      for (int what = 0; what < 4; what++) {
        due("ways(" + s + ", " + what + ")", x.ways(s, what), want[s][what]);
      }
    }
    x.turn(0);
    due("ways(0, 0) turned", x.ways(0, 0), 6);
    x.set(0, 0, 0, 0);
    due("ways(0, 0) with R 3", x.ways(0, 0), 3);
    due("ways(0, 1) with R 3", x.ways(0, 1), 35);
    due("ways(0, 4)", x.ways(0, 4), BAD);
    due("ways(3, 0)", x.ways(3, 0), BAD);
    for (int n : EXTREMES) {
      due("ways, extreme s", x.ways(n, 0), BAD);
      due("ways, extreme what", x.ways(0, n), BAD);
    }
  }

  private static void dueChance(MarginTables x, int s, int law, long above, long below) {
    due("chance(" + s + ", " + law + ", 0)", x.chance(s, law, 0), above);
    due("chance(" + s + ", " + law + ", 1)", x.chance(s, law, 1), below);
  }

  private static void promise13() {
    promise = 13;
    MarginTables x = laid(MIDDLE + SMALL);
    dueChance(x, 0, 0, 23, 35);
    dueChance(x, 0, 1, 13, 35);
    dueChance(x, 0, 2, 4, 5);
    dueChance(x, 1, 0, 1, 1);
    dueChance(x, 1, 1, 5, 6);
    dueChance(x, 1, 2, 5, 6);
    x.move(1, 0, 1);
    dueChance(x, 1, 0, 1, 3);
    dueChance(x, 1, 1, 1, 6);
    dueChance(x, 1, 2, 1, 1);
    x.undo();
    x.set(1, 1, 1, 0);
    dueChance(x, 1, 1, 1, 1);
    dueChance(x, 1, 2, 1, 1);
    due("chance(0, 3, 0)", x.chance(0, 3, 0), BAD);
    due("chance(0, 0, 2)", x.chance(0, 0, 2), BAD);
    due("chance(2, 0, 0)", x.chance(2, 0, 0), BAD);
    for (int n : EXTREMES) {
      due("chance, extreme s", x.chance(n, 0, 0), BAD);
      due("chance, extreme law", x.chance(0, n, 0), BAD);
      due("chance, extreme part", x.chance(0, 0, n), BAD);
    }
    MarginTables great = laid(GREAT);
    dueChance(great, 0, 0, 1, 1);
  }

  private static void dueJoined(MarginTables x, int law, long above, long below) {
    due("joined(" + law + ", 0)", x.joined(law, 0), above);
    due("joined(" + law + ", 1)", x.joined(law, 1), below);
  }

  private static void promise14() {
    promise = 14;
    MarginTables one = laid(SMALL);
    dueJoined(one, 1, 5, 6);
    dueJoined(one, 2, 5, 6);
    // Twice 1, 4, 1 ways of the sums 0, 1, 2: 1, 8, 18, 8, 1 of the sums 0 to 4, 2 being seen.
    MarginTables two = laid(SMALL + SMALL);
    dueJoined(two, 1, 3, 4);
    dueJoined(two, 2, 3, 4);
    two.move(1, 0, 1);
    dueJoined(two, 1, 1, 4);
    dueJoined(two, 2, 35, 36);
    // Thrice: 1, 12, 51, 88, 51, 12, 1 of the sums 0 to 6, 3 being seen.
    MarginTables three = laid(SMALL + SMALL + SMALL);
    dueJoined(three, 1, 19, 27);
    three.set(2, 0, 0, 0);
    three.set(2, 1, 0, 0);
    dueJoined(three, 1, 3, 4);
    due("joined(0, 0)", three.joined(0, 0), BAD);
    due("joined(3, 0)", three.joined(3, 0), BAD);
    due("joined(1, 2)", three.joined(1, 2), BAD);
    MarginTables great = laid(GREAT + GREAT);
    due("joined(1, 0) of too many", great.joined(1, 0), NONE);
    due("joined(2, 1) of too many", great.joined(2, 1), NONE);
    due("joined(0, 1) of too many", great.joined(0, 1), BAD);
    due("joined(2, 2) of too many", great.joined(2, 2), BAD);
    for (int n : EXTREMES) {
      due("joined, extreme law", three.joined(n, 0), BAD);
      due("joined, extreme part", three.joined(1, n), BAD);
      due("joined, extreme law of too many", great.joined(n, 0), BAD);
    }
    // 118264581564861424 ways times 66 are below 2 to the 63rd, times 78 above it.
    String greatWithoutScores = "s;c12,6,0;c12,6,0;c12,6,0;c12,6,0;c12,6,0;";
    dueJoined(laid(greatWithoutScores + "s;c6,1,0;c6,1,0;"), 1, 1, 1);
    dueJoined(laid(greatWithoutScores + "s;c6,2,0;c6,0,1;"), 1, 1, 1);
    dueJoined(laid(greatWithoutScores + "s;c6,2,0;c6,0,1;"), 2, 5, 22);
    due("joined(1, 0) of 78 times", laid(greatWithoutScores + "s;c12,2,0;c1,0,0;").joined(1, 0), NONE);
    String twelveAndTwo = "s;c6,1,0;c6,0,0;s;c1,1,0;c1,0,0;";
    due("joined(1, 0) of 12 times 2", laid(twelveAndTwo + greatWithoutScores).joined(1, 0), 1);
    String twelveAndSeven = "s;c6,1,0;c6,0,0;s;c6,1,0;c1,0,0;";
    due("joined(1, 0) of 12 times 7", laid(twelveAndSeven + greatWithoutScores).joined(1, 0), NONE);
    MarginTables most = laid("s;c12,12,9;c12,12,9;c12,12,9;c12,12,9;c12,12,9;"
        + "s;c12,12,9;c12,12,9;c12,12,9;c12,12,9;c12,12,9;s;c12,12,9;c12,12,9;c12,12,9;c12,12,9;c12,12,9;");
    dueJoined(most, 1, 1, 1);
    dueJoined(most, 2, 1, 1);
    most.turn(1);
    dueJoined(most, 1, 1, 1);
  }

  private static void promise15() {
    promise = 15;
    MarginTables x = laid(MIDDLE + SMALL);
    int[][] want = {{7, 3, 6}, {3, 2, 2}};
    for (int s = 0; s < 2; s++) {
      for (int law = 0; law < 3; law++) {
        due("strange(" + s + ", " + law + ")", x.strange(s, law), want[s][law]);
      }
    }
    x.set(0, 0, 0, 2);
    x.set(0, 1, 0, 1);
    x.set(0, 2, 0, 0);
    due("strange(0, 0) of (2, 1, 0)", x.strange(0, 0), 3);
    due("strange(0, 1) of (2, 1, 0)", x.strange(0, 1), 8);
    due("strange(0, 2) of (2, 1, 0)", x.strange(0, 2), 1);
    due("strange(0, 3)", x.strange(0, 3), BAD);
    due("strange(2, 0)", x.strange(2, 0), BAD);
    for (int n : EXTREMES) {
      due("strange, extreme s", x.strange(n, 0), BAD);
      due("strange, extreme law", x.strange(0, n), BAD);
    }
  }

  private static void promise16() {
    promise = 16;
    MarginTables x = laid(MIDDLE);
    // j, a, then AHEAD, BEHIND, LONGEST, SHORTEST.
    long[][] there = {{0, 0, 1, 35, 12, 1}, {1, 0, 1, 10, 6, 1}, {1, 1, 2, 10, 6, 1}, {1, 2, 1, 5, 3, 2},
      {2, 0, 1, 1, 1, 1}, {2, 1, 4, 3, 3, 3}, {2, 2, 6, 3, 3, 3}, {2, 3, 4, 1, 1, 1}, {3, 3, 35, 1, 1, 1}};
    for (long[] n : there) {
      for (int what = 0; what < 4; what++) {
        String call = "node(0, " + n[0] + ", " + n[1] + ", " + what + ")";
        due(call, x.node(0, (int) n[0], (int) n[1], what), n[2 + what]);
      }
    }
    int[][] none = {{0, 1}, {0, 2}, {0, 3}, {1, 3}, {3, 0}, {3, 1}, {3, 2}};
    for (int[] n : none) {
      due("node(0, " + n[0] + ", " + n[1] + ", 0)", x.node(0, n[0], n[1], 0), NONE);
      due("node(0, " + n[0] + ", " + n[1] + ", 3)", x.node(0, n[0], n[1], 3), NONE);
      due("node(0, " + n[0] + ", " + n[1] + ", 4)", x.node(0, n[0], n[1], 4), BAD);
    }
    due("node(0, 4, 0, 0)", x.node(0, 4, 0, 0), BAD);
    due("node(0, -1, 0, 0)", x.node(0, -1, 0, 0), BAD);
    due("node(0, 0, 4, 0)", x.node(0, 0, 4, 0), BAD);
    due("node(0, 3, -1, 0)", x.node(0, 3, -1, 0), BAD);
    due("node(1, 0, 0, 0)", x.node(1, 0, 0, 0), BAD);
    due("node(0, 0, 0, -1)", x.node(0, 0, 0, -1), BAD);
    for (int n : EXTREMES) {
      due("node, extreme s", x.node(n, 0, 0, 0), BAD);
      due("node, extreme j", x.node(0, n, 0, 0), BAD);
      due("node, extreme a", x.node(0, 0, n, 0), BAD);
      due("node, extreme what", x.node(0, 0, 0, n), BAD);
    }
    x.set(0, 2, 0, 3);
    x.set(0, 1, 0, 2);
    due("node(0, 1, 0, 0) with R 6", x.node(0, 1, 0, 0), NONE);
    due("node(0, 1, 1, 0) with R 6", x.node(0, 1, 1, 0), 2);
    due("node(0, 1, 1, 1) with R 6", x.node(0, 1, 1, 1), 1);
    due("node(0, 3, 6, 0) with R 6", x.node(0, 3, 6, 0), 7);
  }

  private static void promise17() {
    promise = 17;
    MarginTables x = laid(SMALL);
    // Seen has most ways: whatever number column 0 has, all from there on are rare.
    due("looks(0, 0) of (1, 1)", x.looks(0, 0), 3);
    due("looks(0, 1)", x.looks(0, 1), 6);
    x.move(0, 0, 1);
    // Of 1 way: 0 and 2 of column 0 are rare, 1 is not.
    due("looks(0, 0) of (0, 2)", x.looks(0, 0), 3);
    x = laid(MIDDLE);
    // 0 (1 times 6 is no more than 6), 1 (2 times 6 is more, 2 times 1 is not: on to 1, 2, 3), 2 (1 times 3).
    due("looks(0, 0) of 6 ways", x.looks(0, 0), 6);
    due("looks(0, 1)", x.looks(0, 1), 3 + 8 + 8);
    x.set(0, 0, 0, 2);
    x.set(0, 1, 0, 1);
    x.set(0, 2, 0, 0);
    // 2 ways: 0 goes on to 0, 1, 2, of which none goes on; 1 to 0, 1, 2; 2 to 0, 1.
    due("looks(0, 0) of 2 ways", x.looks(0, 0), 3 + 3 + 3 + 2);
    due("looks(0, 2)", x.looks(0, 2), BAD);
    due("looks(1, 0)", x.looks(1, 0), BAD);
    for (int n : EXTREMES) {
      due("looks, extreme s", x.looks(n, 0), BAD);
      due("looks, extreme what", x.looks(0, n), BAD);
    }
  }

  private static void promise18() {
    promise = 18;
    MarginTables x = laid(MIDDLE + "s;c3,0,0;c4,0,0;");
    int[][] tables = {{0, 0, 3}, {0, 1, 2}, {0, 2, 1}, {1, 0, 2}, {1, 1, 1}, {1, 2, 0}, {2, 0, 1}, {2, 1, 0}};
    for (int t = 0; t < 8; t++) {
      for (int j = 0; j < 3; j++) {
        due("table(0, " + t + ", " + j + ")", x.table(0, t, j), tables[t][j]);
      }
    }
    due("table(1, 0, 1)", x.table(1, 0, 1), 0);
    due("table(1, 1, 1)", x.table(1, 1, 1), BAD);
    due("table(0, 8, 0)", x.table(0, 8, 0), BAD);
    due("table(0, 0, 3)", x.table(0, 0, 3), BAD);
    due("table(2, 0, 0)", x.table(2, 0, 0), BAD);
    for (int n : EXTREMES) {
      due("table, extreme s", x.table(n, 0, 0), BAD);
      due("table, extreme t", x.table(0, n, 0), BAD);
      due("table, extreme j", x.table(0, 0, n), BAD);
    }
  }

  private static void promise19() {
    promise = 19;
    MarginTables x = laid(MIDDLE + SMALL);
    due("rank(0)", x.rank(0), 3);
    due("rank(1)", x.rank(1), 1);
    for (int t = 0; t < 8; t++) {
      MarginTables y = laid(MIDDLE);
      for (int j = 0; j < 3; j++) {
        y.set(0, j, 0, x.table(0, t, j));
      }
      due("rank(0) of table " + t, y.rank(0), t);
    }
    due("rank(2)", x.rank(2), BAD);
    for (int n : EXTREMES) {
      due("rank, extreme", x.rank(n), BAD);
    }
  }

  private static void promise20() {
    promise = 20;
    // Of (0, 1) and (1, 0) the first; of (1, 2) and (2, 1) too.
    MarginTables x = laid(MIDDLE + "s;c2,1,0;c2,0,0;s;c3,3,0;c3,0,0;");
    int[][] want = {{1, 1, 1}, {0, 1}, {1, 2}};
    for (int s = 0; s < 3; s++) {
      for (int j = 0; j < want[s].length; j++) {
        due("likeliest(" + s + ", " + j + ")", x.likeliest(s, j), want[s][j]);
      }
    }
    due("likeliest(0, 3)", x.likeliest(0, 3), BAD);
    due("likeliest(1, 2)", x.likeliest(1, 2), BAD);
    due("likeliest(3, 0)", x.likeliest(3, 0), BAD);
    for (int n : EXTREMES) {
      due("likeliest, extreme s", x.likeliest(n, 0), BAD);
      due("likeliest, extreme j", x.likeliest(0, n), BAD);
    }
    MarginTables great = laid(GREAT);
    for (int j = 0; j < 5; j++) {
      due("likeliest(0, " + j + ") of GREAT", great.likeliest(0, j), 6);
    }
  }

  private static void promise21() {
    promise = 21;
    MarginTables x = laid(MIDDLE + SMALL + GREAT);
    int text = MIDDLE.length() + SMALL.length() + GREAT.length();
    int[] want = {3, 10, 71, 35, 97, 0, text};
    for (int what = 0; what < 7; what++) {
      due("count(" + what + ")", x.count(what), want[what]);
    }
    x.move(0, 2, 1);
    due("count(4) moved", x.count(4), 95);
    due("count(5) moved", x.count(5), 1);
    x.turn(1);
    x.set(2, 0, 0, 0);
    due("count(3) told anew", x.count(3), 29);
    due("count(5) told anew", x.count(5), 3);
    x.undo();
    due("count(5) undone", x.count(5), 2);
    x.wipe();
    due("count(6) wiped", x.count(6), 0);
    due("count(7)", x.count(7), BAD);
    for (int n : EXTREMES) {
      due("count, extreme", x.count(n), BAD);
    }
  }
}
