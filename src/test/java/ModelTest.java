import java.util.Random;

/** Runs of 512 calls drawn from fixed seeds, each answer held against the model's. */
public final class ModelTest {
  private static final int RUNS = 8000;
  // What later calls answer is free.
  private static final int CALLS = 512;
  // No turn makes more calls than this: one to write, and one for each byte and those beside them.
  private static final int MOST_OF_A_TURN = 36;
  private static final long[] EDGES = {0, 1, -1, 2, 5, 7, 8, 1L << 32, Long.MIN_VALUE, Long.MAX_VALUE, 1000, 1000000000L};

  private static final int[] POPS = {0, 0, 1, 2, 1, 1, 1, 1, 0, 1, 1, 0, 0, 0, 0, 0};
  private static final int[] PUSHES = {1, 1, 0, 1, 0, 0, 1, 1, 1, 0, 0, 0, 1, 1, 1, 1};

  private final Random random;
  private final CallTraces x = new CallTraces();
  private final Model y = new Model();
  private final String run;
  // Some runs draw few wrong numbers, so that walks get far; some draw many.
  private final int oddness;
  private final boolean tells;
  private int made = 0;

  private ModelTest(int seed) {
    random = new Random(seed);
    run = "run " + seed + ": ";
    oddness = 4 << random.nextInt(6);
    tells = random.nextInt(8) == 0;
  }

  public static void main(String[] args) {
    int[] seen = new int[9];
    for (int seed = 0; seed < RUNS && Checks.wrongs() < 20; seed++) {
      new ModelTest(seed).walk(seen);
    }
    for (int failure = 0; failure < 8; failure++) {
      System.out.println(seen[failure] + " calls ended with failure " + failure);
      Checks.due("calls that end with " + failure + " were seen", seen[failure] > 200 ? 1 : 0, 1);
    }
    System.out.println(seen[8] + " calls had 40 tells");
    Checks.due("calls with 40 tells were seen", seen[8] > 20 ? 1 : 0, 1);
    Checks.end();
  }

  private void due(String what, long got, long want) {
    made++;
    Checks.due(run + what, got, want);
  }

  /** A number from 0 on below a bound, or beside that. */
  private int below(int bound) {
    if (random.nextInt(oddness) == 0) {
      int[] odd = {-1, bound, bound + 1, -2, Integer.MAX_VALUE, Integer.MIN_VALUE};
      return odd[random.nextInt(odd.length)];
    }
    return bound < 1 ? 0 : random.nextInt(bound);
  }

  private long edge() {
    return random.nextInt(3) == 0 ? EDGES[random.nextInt(EDGES.length)] : random.nextInt(30) - 3;
  }

  private void walk(int[] seen) {
    int accounts = 1 + random.nextInt(6);
    int programs = 1 + random.nextInt(8);
    for (int i = 0; i < accounts; i++) {
      due("account()", x.account(), y.account());
      due("fund()", x.fund(i, 100 * i), y.fund(i, 100 * i));
    }
    for (int i = 0; i < programs; i++) {
      due("program()", x.program(), y.program());
      fill(i, accounts);
    }
    for (int i = 0; i < accounts * 4; i++) {
      int program = random.nextInt(programs + 1) - 1;
      due("member()", x.member(i / 4, i % 4, program), y.member(i / 4, i % 4, program));
    }
    while (made <= CALLS - MOST_OF_A_TURN) {
      one(seen);
    }
    Checks.due(run + "no more calls than an object is used for", made <= CALLS ? 1 : 0, 1);
  }

  private void fill(int program, int accounts) {
    if (tells) {
      fillWithTells(program, accounts);
      return;
    }
    int size = random.nextInt(16);
    int height = 0;
    for (int i = 0; i < size; i++) {
      int kind = drawKind(height);
      drawOp(program, kind, size, accounts);
      height += PUSHES[kind] - POPS[kind];
    }
  }

  /** Most often one for which there is enough on the stack, so that walks get far. */
  private int drawKind(int height) {
    int[] likely = {0, 1, 2, 3, 4, 5, 6, 6, 7, 7, 7, 8, 8, 9, 12, 13, 14, 15};
    int kind = random.nextInt(16);
    for (int i = 0; i < 4; i++) {
      kind = random.nextInt(30) == 0 ? 10 + random.nextInt(2) : likely[random.nextInt(likely.length)];
      if (POPS[kind] <= height) {
        return kind;
      }
    }
    return kind;
  }

  /** Eight or nine tells, which may fail in the end; or calls of others, then tells of what they ended with. */
  private void fillWithTells(int program, int accounts) {
    boolean teller = random.nextInt(3) > 0;
    int rounds = teller ? 8 + random.nextInt(2) : 3 + random.nextInt(3);
    for (int i = 0; i < rounds; i++) {
      addOp(program, teller ? 8 : 14, 0, 0);
      if (teller) {
        addOp(program, 9, edge(), 0);
      } else {
        addOp(program, 6 + random.nextInt(2), random.nextInt(accounts), random.nextInt(4));
      }
    }
    for (int i = 0; i < rounds && !teller; i++) {
      addOp(program, 9, i, 0);
    }
    if (random.nextInt(8) == 0) {
      addOp(program, 11, 4, 0);
    }
  }

  private void addOp(int program, int kind, long a, int b) {
    due("op(" + program + ", " + kind + ", " + a + ", " + b + ")", x.op(program, kind, a, b), y.op(program, kind, a, b));
  }

  private void drawOp(int program, int kind, int size, int accounts) {
    long a = edge();
    switch (kind) {
      case 1, 2 -> a = below(8);
      case 3 -> a = below(5);
      case 4 -> a = below(size);
      case 5, 6, 7, 15 -> a = below(accounts);
      case 11 -> a = random.nextLong();
      case 12 -> a = below(2);
      default -> a = edge();
    }
    if (random.nextInt(8 * oddness) == 0) {
      a += 1L << 32;
    }
    addOp(program, kind, a, below(4));
  }

  private void one(int[] seen) {
    int traces = y.count(2);
    int trace = below(traces);
    int other = below(traces);
    int steps = Math.max(0, y.trace(trace, 0));
    int k = below(steps);
    int accounts = y.count(1);
    int account = below(accounts);
    switch (random.nextInt(30)) {
      case 0 -> due("program()", x.program(), y.program());
      case 1 -> drawOp(below(y.count(0)), below(16), 10, accounts);
      case 2 -> due("account()", x.account(), y.account());
      case 3 -> setMember(account);
      case 4 -> setPrice();
      case 5 -> setFund(account);
      case 6 -> readCell(account, below(8));
      case 7 -> due("balance(" + account + ")", x.balance(account), y.balance(account));
      case 8, 9, 10, 11 -> makeCall(account, seen);
      case 12 -> maybeDrop(traces);
      case 13, 14 -> ofTrace(trace, below(7));
      case 15 -> due("result(" + trace + ")", x.result(trace), y.result(trace));
      case 16, 17 -> ofStep(trace, k, below(7));
      case 18 -> due("value(" + trace + ", " + k + ")", x.value(trace, k), y.value(trace, k));
      case 19 -> search(trace, below(16), k);
      case 20 -> flame(trace, account, below(4), random.nextBoolean());
      case 21 -> ofTouch(trace, below(y.trace(trace, 6)), below(4));
      case 22 -> flow(trace, account, random.nextBoolean());
      case 23 -> ofTell(trace, account, below(3), below(2));
      case 24 -> told(trace, below(y.trace(trace, 5)));
      case 25, 26 -> back(trace, below(steps + 1));
      case 27 -> due("compare(" + trace + ", " + other + ")", x.compare(trace, other), y.compare(trace, other));
      case 28 -> due("halves(" + trace + ", " + other + ")", x.halves(trace, other), y.halves(trace, other));
      default -> write(trace, k);
    }
  }

  private void setMember(int account) {
    int member = below(4);
    int program = below(y.count(0) + 1) - 1;
    due("member(" + account + ", " + member + ", " + program + ")", x.member(account, member, program), y.member(account, member, program));
  }

  private void setPrice() {
    int kind = below(16);
    int n = random.nextInt(4) == 0 ? below(51) : 1 + random.nextInt(3);
    due("price(" + kind + ", " + n + ")", x.price(kind, n), y.price(kind, n));
  }

  private void setFund(int account) {
    long n = random.nextInt(4) == 0 ? edge() : random.nextInt(100);
    due("fund(" + account + ", " + n + ")", x.fund(account, n), y.fund(account, n));
  }

  private void readCell(int account, int cell) {
    due("cell(" + account + ", " + cell + ")", x.cell(account, cell), y.cell(account, cell));
  }

  private void makeCall(int account, int[] seen) {
    int member = below(4);
    long argument = edge();
    int limit = random.nextInt(4) == 0 ? below(101) : 100;
    int made = y.call(account, member, argument, limit);
    due("call(" + account + ", " + member + ", " + argument + ", " + limit + ")", x.call(account, member, argument, limit), made);
    if (made >= 0) {
      seen[y.trace(made, 1)]++;
      seen[8] += y.trace(made, 5) == 40 ? 1 : 0;
      for (int what = 0; what < 7; what++) {
        ofTrace(made, what);
      }
    }
    due("state()", x.state(), y.state());
  }

  private void maybeDrop(int traces) {
    if (traces > 5 || random.nextInt(3) == 0) {
      due("drop()", x.drop(), y.drop());
    }
    int what = below(4);
    due("count(" + what + ")", x.count(what), y.count(what));
  }

  private void ofTrace(int trace, int what) {
    due("trace(" + trace + ", " + what + ")", x.trace(trace, what), y.trace(trace, what));
  }

  private void ofStep(int trace, int k, int what) {
    due("step(" + trace + ", " + k + ", " + what + ")", x.step(trace, k, what), y.step(trace, k, what));
  }

  private void search(int trace, int kind, int from) {
    due("search(" + trace + ", " + kind + ", " + from + ")", x.search(trace, kind, from), y.search(trace, kind, from));
  }

  private void flame(int trace, int account, int member, boolean with) {
    due("flame(" + trace + ", " + account + ", " + member + ", " + with + ")", x.flame(trace, account, member, with), y.flame(trace, account, member, with));
  }

  private void ofTouch(int trace, int i, int what) {
    due("touch(" + trace + ", " + i + ", " + what + ")", x.touch(trace, i, what), y.touch(trace, i, what));
  }

  private void flow(int trace, int account, boolean got) {
    due("flow(" + trace + ", " + account + ", " + got + ")", x.flow(trace, account, got), y.flow(trace, account, got));
  }

  private void ofTell(int trace, int account, int i, int what) {
    due("tell(" + trace + ", " + account + ", " + i + ", " + what + ")", x.tell(trace, account, i, what), y.tell(trace, account, i, what));
  }

  private void told(int trace, int i) {
    due("told(" + trace + ", " + i + ")", x.told(trace, i), y.told(trace, i));
  }

  private void back(int trace, int k) {
    due("back(" + trace + ", " + k + ")", x.back(trace, k), y.back(trace, k));
  }

  private void write(int trace, int k) {
    int length = y.write(trace, k);
    due("write(" + trace + ", " + k + ")", x.write(trace, k), length);
    for (int i = -1; i <= length; i++) {
      due("out(" + i + ")", x.out(i), y.out(i));
    }
  }
}
