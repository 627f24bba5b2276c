/** What the tests share: answers held against those that are due, and short ways to set a scene. */
final class Checks {
  static final int PUSH = 0, READ = 1, WRITE = 2, MATH = 3, JUMP = 4, SEND = 5, CALL = 6, TRY = 7;
  static final int ARGUMENT = 8, TELL = 9, RETURN = 10, FAIL = 11, COPY = 12, SELF = 13, FROM = 14, FUNDS = 15;
  static final int UNKNOWN = -1, OUTSIDE = -2, STATE = -3, FULL = -4, NONE = -5;

  private static int wrong = 0;
  private static int held = 0;

  private Checks() {
  }

  static void due(String what, long got, long want) {
    held++;
    if (got != want) {
      wrong++;
      System.out.println(what + " answered " + got + ", due is " + want);
    }
  }

  static void dueText(String what, String got, String want) {
    held++;
    if (!got.equals(want)) {
      wrong++;
      System.out.println(what + " answered \"" + got + "\", due is \"" + want + "\"");
    }
  }

  static int wrongs() {
    return wrong;
  }

  static void end() {
    System.out.println(wrong == 0 ? held + " answers are as due" : wrong + " answers are not as due");
    if (wrong != 0) {
      System.exit(1);
    }
  }

  /** An object with accounts, each with 1000 funds. */
  static CallTraces scene(int accounts) {
    CallTraces x = new CallTraces();
    for (int i = 0; i < accounts; i++) {
      x.account();
      x.fund(i, 1000);
    }
    return x;
  }

  /** A program as a member: rows of a kind, then a, then b where they matter. */
  static int put(CallTraces x, int account, int member, long[]... ops) {
    int program = x.program();
    for (long[] op : ops) {
      x.op(program, (int) op[0], op.length > 1 ? op[1] : 0, op.length > 2 ? (int) op[2] : 0);
    }
    due("member() of a scene", x.member(account, member, program), 1);
    return program;
  }

  static long[] o(long... op) {
    return op;
  }

  static long digest(long... row) {
    long h = 17;
    for (long it : row) {
      h = (h ^ it) * 0x9E3779B97F4A7C15L;
      h = h ^ (h >>> 29);
    }
    return h;
  }

  static String outOf(CallTraces x, int length) {
    StringBuilder text = new StringBuilder();
    for (int i = 0; i < length; i++) {
      text.append((char) x.out(i));
    }
    return text.toString();
  }
}
