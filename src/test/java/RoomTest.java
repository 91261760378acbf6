import java.lang.management.ManagementFactory;

/** All calls of one run live in one room: the constructor makes every row, and no call makes anything. */
public final class RoomTest {
  private static final String GREAT = "s;c12,6,0;c12,6,1;c12,6,2;c12,6,3;c12,6,9;";
  private static final long MOST_BYTES_OF_AN_OBJECT = 200_000;
  private static final long MOST_BYTES_OF_ALL_CALLS = 4_000;

  private static final com.sun.management.ThreadMXBean THREADS =
      (com.sun.management.ThreadMXBean) ManagementFactory.getThreadMXBean();

  private static long allocated() {
    return THREADS.getThreadAllocatedBytes(Thread.currentThread().getId());
  }

  private static long use(MarginTables x) {
    long answers = 0;
    for (int i = 0; i < GREAT.length(); i++) {
      answers += x.write(GREAT.charAt(i));
    }
    answers += x.fault() + x.lay();
    for (int i = 0; i < 12; i++) {
      answers += x.set(0, 0, 0, i) + x.set(0, 1, 1, i % 10) + x.move(0, 2, 3) + x.turn(0) + x.undo();
      answers += x.column(0, 0, 0) + x.stratum(0, 4) + x.stratum(0, 6) + x.ways(0, 1) + x.count(4);
      answers += x.chance(0, 0, 0) + x.chance(0, 1, 0) + x.chance(0, 2, 1) + x.joined(1, 0) + x.strange(0, 2);
      answers += x.node(0, 3, 7, 2) + x.looks(0, 0) + x.looks(0, 1) + x.table(0, 900, 3);
      answers += x.rank(0) + x.likeliest(0, 4);
    }
    return answers + x.wipe();
  }

  public static void main(String[] args) {
    long first = use(new MarginTables());
    long before = allocated();
    MarginTables x = new MarginTables();
    long made = allocated();
    long second = use(x);
    long used = allocated();
    boolean isSo = true;
    if (made - before > MOST_BYTES_OF_AN_OBJECT) {
      System.out.println("an object takes " + (made - before) + " bytes");
      isSo = false;
    }
    if (used - made > MOST_BYTES_OF_ALL_CALLS) {
      System.out.println("calls made " + (used - made) + " bytes");
      isSo = false;
    }
    if (first != second) {
      System.out.println("the same calls answered otherwise");
      isSo = false;
    }
    System.out.println("an object: " + (made - before) + " bytes, its calls: " + (used - made) + " bytes");
    if (!isSo) {
      System.exit(1);
    }
  }
}
