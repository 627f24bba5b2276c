import java.util.Arrays;

/** What the tests share: answers held against those that are due, and short ways to set a scene. */
class Checks {
  static final int PUSH = 0, READ = 1, WRITE = 2, MATH = 3, JUMP = 4, SEND = 5, CALL = 6, TRY = 7;
  static final int ARGUMENT = 8, TELL = 9, RETURN = 10, FAIL = 11, COPY = 12, SELF = 13, FROM = 14, FUNDS = 15;
  static final int UNKNOWN = -1, OUTSIDE = -2, STATE = -3, FULL = -4, NONE = -5;
  static final int NOTHING = 1, INDEX = 2, ZERO = 3, LACK = 4, OWN = 5, SPENT = 6, DEEP = 7;
  static final long MIN = Long.MIN_VALUE, MAX = Long.MAX_VALUE;

  private static int wrong = 0;
  private static int held = 0;

  Checks() {
  }

  static void due(String what, long got, long want) {
    held++;
    if (got != want) {
      wrong++;
      System.out.println(what + " answered " + got + ", due is " + want);
    }
  }

  static void dueText(String what, String got, String want) {
    held++;
    if (!got.equals(want)) {
      wrong++;
      System.out.println(what + " answered \"" + got + "\", due is \"" + want + "\"");
    }
  }

  static int wrongs() {
    return wrong;
  }

  static void end() {
    System.out.println(wrong == 0 ? held + " answers are as due" : wrong + " answers are not as due");
    if (wrong != 0) {
      System.exit(1);
    }
  }

  /** An object with accounts, each with 1000 funds. */
  static CallTraces scene(int accounts) {
    CallTraces x = new CallTraces();
    for (int i = 0; i < accounts; i++) {
      x.account();
      x.fund(i, 1000);
    }
    return x;
  }

  /** A program as a member: rows of a kind, then a, then b where they matter. */
  static int put(CallTraces x, int account, int member, long[]... ops) {
    int program = x.program();
    for (long[] op : ops) {
      x.op(program, (int) op[0], op.length > 1 ? op[1] : 0, op.length > 2 ? (int) op[2] : 0);
    }
    due("member() of a scene", x.member(account, member, program), 1);
    return program;
  }

  static long[] o(long... op) {
    return op;
  }

  /** Ops behind others. */
  static long[][] then(long[][] first, long[]... last) {
    long[][] all = Arrays.copyOf(first, first.length + last.length);
    System.arraycopy(last, 0, all, first.length, last.length);
    return all;
  }

  /** Pairs of ops that leave all as it was: jumps that do not jump. */
  static long[][] idle(int pairs) {
    long[][] ops = new long[2 * pairs][];
    for (int i = 0; i < pairs; i++) {
      ops[2 * i] = o(PUSH, 0);
      ops[2 * i + 1] = o(JUMP, 0);
    }
    return ops;
  }

  /** As many pushes of 100, 101 .. */
  static long[][] pushes(int n) {
    long[][] ops = new long[n][];
    for (int i = 0; i < n; i++) {
      ops[i] = o(PUSH, 100 + i);
    }
    return ops;
  }

  /** Numbers that are not 0 .. bound - 1: just beside, and far off. */
  static int[] beside(int bound) {
    return new int[] {-1, bound, Integer.MIN_VALUE, Integer.MAX_VALUE};
  }

  /** Likewise, and those whose low halves are 0 and 1. */
  static long[] besideAsLongs(int bound) {
    return new long[] {-1, bound, MIN, MAX, 1L << 32, (1L << 32) + 1, -(1L << 32)};
  }

  /** Walks the ops as member 0 of account 0 (of two) and holds the failure, the result and the last step's value. */
  static CallTraces ends(String what, int failure, long result, long[]... ops) {
    CallTraces x = scene(2);
    put(x, 0, 0, ops);
    due(what + ": call()", x.call(0, 0, 77, 100), 0);
    due(what + ": failure", x.trace(0, 1), failure);
    due(what + ": result", x.result(0), result);
    int last = x.trace(0, 0) - 1;
    if (failure != 0 && failure != SPENT && last >= 0) {
      due(what + ": failure of the last step", x.step(0, last, 6), failure);
      due(what + ": value of the last step", x.value(0, last), 0);
    }
    return x;
  }

  static long digest(long... row) {
    long h = 17;
    for (long it : row) {
      h = (h ^ it) * 0x9E3779B97F4A7C15L;
      h = h ^ (h >>> 29);
    }
    return h;
  }

  static String outOf(CallTraces x, int length) {
    StringBuilder text = new StringBuilder();
    for (int i = 0; i < length; i++) {
      text.append((char) x.out(i));
    }
    return text.toString();
  }
}
