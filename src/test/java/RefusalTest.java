import java.util.ArrayList;
import java.util.Arrays;
import java.util.List;

/**
 * "nothing changes then" (Terms, for promises 2 and 4 to 21): a refused call leaves everything as it was, and so does
 * a call that only asks. An object that was refused is laid beside one that was not, both from the same
 * state; then everything that can be asked, undone, told and laid must be answered alike by both.
 */
public final class RefusalTest {
  private static final int MOST_CALLS = 512;
  private static final int BATCH = 30;
  private static final int[] S = {-1, 0, 1, 2, 3, 256, Integer.MIN_VALUE, Integer.MAX_VALUE};
  private static final int[] J = {-1, 0, 1, 2, 3, 4, 5, 6, 65536, Integer.MIN_VALUE, Integer.MAX_VALUE};
  private static final int[] WHAT = {-1, 0, 1, 2, 3, 4, 7, Integer.MIN_VALUE, Integer.MAX_VALUE};
  private static final int[] VALUE = {-1, 0, 1, 2, 3, 5, 9, 10, 12, 13, Integer.MIN_VALUE, Integer.MAX_VALUE};
  private static final int[] LETTER = {-1, 0, 31, 32, 59, 99, 115, 126, 127, 256 + 59,
    Integer.MIN_VALUE, Integer.MAX_VALUE};

  private static int wrong = 0;
  private static int refused = 0;

  // ---- calls by name

  private static final class Call {
    final String name;
    final int[] n;

    Call(String name, int... n) {
      this.name = name;
      this.n = Arrays.copyOf(n, 4);
    }

    @Override
    public String toString() {
      return name + Arrays.toString(n);
    }
  }

  private static long answer(MarginTables x, Call call) {
    int[] n = call.n;
    switch (call.name) {
      case "write": return x.write(n[0]);
      case "wipe": return x.wipe();
      case "fault": return x.fault();
      case "lay": return x.lay();
      case "set": return x.set(n[0], n[1], n[2], n[3]);
      case "move": return x.move(n[0], n[1], n[2]);
      case "turn": return x.turn(n[0]);
      case "undo": return x.undo();
      default: return asked(x, call.name, n);
    }
  }

  private static long asked(MarginTables x, String name, int[] n) {
    switch (name) {
      case "column": return x.column(n[0], n[1], n[2]);
      case "stratum": return x.stratum(n[0], n[1]);
      case "ways": return x.ways(n[0], n[1]);
      case "chance": return x.chance(n[0], n[1], n[2]);
      case "joined": return x.joined(n[0], n[1]);
      case "strange": return x.strange(n[0], n[1]);
      case "node": return x.node(n[0], n[1], n[2], n[3]);
      case "looks": return x.looks(n[0], n[1]);
      case "table": return x.table(n[0], n[1], n[2]);
      case "rank": return x.rank(n[0]);
      case "likeliest": return x.likeliest(n[0], n[1]);
      default: return x.count(n[0]);
    }
  }

  private static void addText(List<Call> calls, String text) {
    for (int i = 0; i < text.length(); i++) {
      calls.add(new Call("write", text.charAt(i)));
    }
  }

  private static MarginTables made(List<Call> state) {
    MarginTables x = new MarginTables();
    for (Call call : state) {
      answer(x, call);
    }
    return x;
  }

  // ---- states that a call may come upon

  private static List<List<Call>> states() {
    List<List<Call>> states = new ArrayList<>();
    states.add(new ArrayList<>());
    states.add(halfTold());
    states.add(fullText());
    states.add(tooManyJoined());
    states.add(emptyAndFullColumns());
    return states;
  }

  /** Eight changes behind, an item begun. */
  private static List<Call> halfTold() {
    List<Call> calls = new ArrayList<>();
    addText(calls, "s;c2,1,0;c2,0,1;c3,2,3;s;c2,1,0;c2,1,1;");
    calls.add(new Call("lay"));
    calls.add(new Call("move", 0, 2, 1));
    calls.add(new Call("set", 1, 0, 0, 2));
    calls.add(new Call("turn", 0));
    calls.add(new Call("set", 1, 1, 1, 9));
    calls.add(new Call("chance", 0, 0, 0));
    calls.add(new Call("turn", 1));
    calls.add(new Call("set", 0, 1, 1, 4));
    calls.add(new Call("move", 0, 1, 0));
    calls.add(new Call("set", 1, 0, 0, 1));
    calls.add(new Call("wipe"));
    addText(calls, "s;c4,2,1;c3");
    return calls;
  }

  /** 200 letters with a fault, three strata, one change undone. */
  private static List<Call> fullText() {
    List<Call> calls = new ArrayList<>();
    addText(calls, "s;c5,1,0;c4,2,2;s;c1,1,9;c1,0,0;s;c2,2,1;c3,0,2;");
    calls.add(new Call("lay"));
    calls.add(new Call("turn", 2));
    calls.add(new Call("move", 0, 1, 0));
    calls.add(new Call("turn", 1));
    calls.add(new Call("undo"));
    addText(calls, "x".repeat(200 - 48));
    return calls;
  }

  /** WAYS of all strata are too many; a text that has no fault and cannot be laid. */
  private static List<Call> tooManyJoined() {
    List<Call> calls = new ArrayList<>();
    String wide = "s;c12,6,4;c12,6,1;c12,6,2;";
    addText(calls, wide + wide + wide);
    calls.add(new Call("lay"));
    calls.add(new Call("set", 2, 2, 1, 3));
    calls.add(new Call("wipe"));
    addText(calls, "s;c2,1,0;c2,1,1;s;c3,3,9;");
    return calls;
  }

  /** Columns with none ABOVE and with all; nothing can be undone, and THE TEXT is what is laid. */
  private static List<Call> emptyAndFullColumns() {
    List<Call> calls = new ArrayList<>();
    addText(calls, "s;c2,0,0;c3,3,9;c1,0,5;c12,12,0;c1,1,1;s;c1,0,0;c1,0,0;");
    calls.add(new Call("lay"));
    return calls;
  }

  // ---- calls that may be refused

  private static void addAll(List<Call> calls, String name, int[]... choices) {
    addChoices(calls, name, new int[4], 0, choices);
  }

  private static void addChoices(List<Call> calls, String name, int[] n, int at, int[][] choices) {
    if (at == choices.length) {
      calls.add(new Call(name, n));
      return;
    }
    for (int choice : choices[at]) {
      n[at] = choice;
      addChoices(calls, name, n, at + 1, choices);
    }
  }

  private static List<Call> telling() {
    List<Call> calls = new ArrayList<>();
    addAll(calls, "write", LETTER);
    addAll(calls, "lay");
    addAll(calls, "set", S, J, WHAT, VALUE);
    addAll(calls, "move", S, J, J);
    addAll(calls, "turn", S);
    addAll(calls, "undo");
    return calls;
  }

  private static List<Call> asking() {
    List<Call> calls = new ArrayList<>();
    addAll(calls, "fault");
    addAll(calls, "column", S, J, WHAT);
    addAll(calls, "stratum", S, WHAT);
    addAll(calls, "ways", S, WHAT);
    addAll(calls, "chance", S, WHAT, WHAT);
    addAll(calls, "joined", WHAT, WHAT);
    addAll(calls, "strange", S, WHAT);
    addAll(calls, "node", S, J, VALUE, new int[] {-1, 0, 3, 4});
    addAll(calls, "looks", S, WHAT);
    addAll(calls, "table", S, VALUE, J);
    addAll(calls, "rank", S);
    addAll(calls, "likeliest", S, J);
    addAll(calls, "count", WHAT);
    return calls;
  }

  // ---- what shows a state: all that can be asked, all that can be undone, what becomes of THE TEXT

  private static List<Call> askAll() {
    List<Call> calls = new ArrayList<>();
    addAll(calls, "fault");
    addAll(calls, "count", new int[] {0, 1, 2, 3, 4, 5, 6});
    addAll(calls, "joined", new int[] {1, 2}, new int[] {0, 1});
    for (int s = 0; s < 3; s++) {
      int[] only = {s};
      addAll(calls, "rank", only);
      addAll(calls, "looks", only, new int[] {0, 1});
      addAll(calls, "chance", only, new int[] {0, 1, 2}, new int[] {0, 1});
      addAll(calls, "strange", only, new int[] {0, 1, 2});
      addAll(calls, "ways", only, new int[] {0, 1, 2, 3});
      addAll(calls, "stratum", only, new int[] {0, 1, 2, 3, 4, 5, 6});
      addAll(calls, "column", only, new int[] {0, 1, 2, 3, 4}, new int[] {0, 1, 2});
      addAll(calls, "likeliest", only, new int[] {0, 1, 2, 3, 4});
      addAll(calls, "node", only, new int[] {0, 1, 2}, new int[] {0, 1, 3}, new int[] {0, 1, 2, 3});
      addAll(calls, "table", only, new int[] {0, 1, 2}, new int[] {0, 1, 4});
    }
    return calls;
  }

  private static List<Call> undoAll() {
    List<Call> calls = new ArrayList<>();
    for (int change = 0; change <= 6; change++) {
      addAll(calls, "column", new int[] {0, 1, 2}, new int[] {0, 1, 2, 3, 4}, new int[] {1, 2});
      addAll(calls, "ways", new int[] {0, 1, 2}, new int[] {0});
      addAll(calls, "chance", new int[] {0, 1, 2}, new int[] {1}, new int[] {0});
      calls.add(new Call("undo"));
      calls.add(new Call("count", 5));
    }
    return calls;
  }

  /** What the halfTold text lacks is written behind whatever text there is. */
  private static List<Call> layAll() {
    List<Call> calls = new ArrayList<>();
    calls.add(new Call("count", 6));
    calls.add(new Call("fault"));
    addText(calls, ",2,2;");
    calls.add(new Call("fault"));
    calls.add(new Call("lay"));
    calls.add(new Call("count", 5));
    addAll(calls, "column", new int[] {0, 1, 2}, new int[] {0, 1, 2, 3, 4}, new int[] {0, 1, 2});
    addAll(calls, "ways", new int[] {0, 1, 2}, new int[] {0, 1, 2, 3});
    addText(calls, "s;c1,0,0;".repeat(16));
    calls.add(new Call("fault"));
    calls.add(new Call("wipe"));
    addText(calls, "s;c3,1,2;c4,2,5;");
    calls.add(new Call("lay"));
    calls.add(new Call("chance", 0, 1, 0));
    return calls;
  }

  // ---- the comparison

  private static boolean isAlike(List<Call> state, List<Call> between, List<Call> shows) {
    if (state.size() + between.size() + shows.size() > MOST_CALLS) {
      fault("a run is longer than " + MOST_CALLS + " calls");
    }
    MarginTables x = made(state);
    MarginTables y = made(state);
    for (Call call : between) {
      answer(y, call);
    }
    for (Call call : shows) {
      if (answer(x, call) != answer(y, call)) {
        return false;
      }
    }
    return true;
  }

  private static void fault(String text) {
    wrong++;
    if (wrong <= 20) {
      System.out.println(text);
    }
  }

  private static boolean changesNothing(List<Call> state, List<Call> between) {
    return isAlike(state, between, askAll()) && isAlike(state, between, undoAll()) && isAlike(state, between, layAll());
  }

  private static void due(int number, List<Call> state, List<Call> calls) {
    for (int from = 0; from < calls.size(); from += BATCH) {
      List<Call> batch = calls.subList(from, Math.min(from + BATCH, calls.size()));
      if (!changesNothing(state, batch)) {
        fault("state " + number + ": something changed by one of " + batch.size() + " calls");
        for (Call call : batch) {
          if (!changesNothing(state, List.of(call))) {
            fault("state " + number + ": something changed by " + call);
          }
        }
      }
    }
  }

  private static List<Call> onlyRefused(List<Call> state, List<Call> calls) {
    List<Call> only = new ArrayList<>();
    for (Call call : calls) {
      if (answer(made(state), call) < 0) {
        only.add(call);
      }
    }
    return only;
  }

  /** So that the test is known to meet each refusal: which answers each call gave over all states. */
  private static void checkMet(String name, List<Call> calls, List<List<Call>> states, long... due) {
    List<Long> met = new ArrayList<>();
    for (List<Call> state : states) {
      for (Call call : calls) {
        if (call.name.equals(name)) {
          long got = answer(made(state), call);
          if (got < 0 && !met.contains(got)) {
            met.add(got);
          }
        }
      }
    }
    for (long want : due) {
      if (!met.contains(want)) {
        fault("no call of " + name + " was refused by " + want);
      }
    }
    if (met.size() != due.length) {
      fault("calls of " + name + " were refused by " + met);
    }
  }

  public static void main(String[] args) {
    List<List<Call>> states = states();
    List<Call> telling = telling();
    List<Call> asking = asking();
    checkMet("write", telling, states, MarginTables.BAD, MarginTables.FULL);
    checkMet("lay", telling, states, MarginTables.NO);
    checkMet("set", telling, states, MarginTables.BAD, MarginTables.NO);
    checkMet("move", telling, states, MarginTables.BAD, MarginTables.NO);
    checkMet("turn", telling, states, MarginTables.BAD);
    checkMet("undo", telling, states, MarginTables.NO);
    checkMet("fault", asking, states, MarginTables.NONE);
    checkMet("joined", asking, states, MarginTables.BAD, MarginTables.NONE);
    checkMet("node", asking, states, MarginTables.BAD, MarginTables.NONE);
    for (String name : List.of("column", "stratum", "ways", "chance", "strange", "looks", "table", "rank",
        "likeliest", "count")) {
      checkMet(name, asking, states, MarginTables.BAD);
    }
    for (int number = 0; number < states.size(); number++) {
      List<Call> state = states.get(number);
      List<Call> only = onlyRefused(state, telling);
      refused += only.size();
      due(number, state, only);
      due(number, state, asking);
    }
    System.out.println(refused + " refused calls in " + states.size() + " states, " + wrong + " faults");
    if (wrong != 0) {
      System.exit(1);
    }
  }
}
