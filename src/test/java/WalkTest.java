/** Promise 10 and the terms: what each kind of op does, how it fails, and what is undone. */
public final class WalkTest {
  private static final int NOTHING = 1, INDEX = 2, ZERO = 3, LACK = 4, OWN = 5, SPENT = 6, DEEP = 7;
  private static final long MIN = Long.MIN_VALUE, MAX = Long.MAX_VALUE;

  public static void main(String[] args) {
    pushes();
    cells();
    math();
    jumps();
    sends();
    endings();
    copies();
    selfAndFrom();
    funds();
    calls();
    callFailures();
    callsBeside();
    tries();
    triesDoNotCatch();
    limits();
    undoneInTheEnd();
    pops();
    Checks.end();
  }

  private static long[] o(long... op) {
    return op;
  }

  /** Walks the ops as member 0 of account 0 (of two) and holds the failure, the result and the last step's value. */
  private static CallTraces ends(String what, int failure, long result, long[]... ops) {
    CallTraces x = Checks.scene(2);
    Checks.put(x, 0, 0, ops);
    Checks.due(what + ": call()", x.call(0, 0, 77, 100), 0);
    Checks.due(what + ": failure", x.trace(0, 1), failure);
    Checks.due(what + ": result", x.result(0), result);
    int last = x.trace(0, 0) - 1;
    if (failure != 0 && failure != SPENT && last >= 0) {
      Checks.due(what + ": failure of the last step", x.step(0, last, 6), failure);
      Checks.due(what + ": value of the last step", x.value(0, last), 0);
    }
    return x;
  }

  private static void pushes() {
    ends("no ops", 0, 0);
    ends("behind the last op", 0, 0, o(Checks.PUSH, 5));
    ends("push", 0, MIN, o(Checks.PUSH, MIN), o(Checks.RETURN));
    ends("argument", 0, 77, o(Checks.ARGUMENT), o(Checks.RETURN));
    long[][] full = new long[13][];
    int[] pushers = {Checks.PUSH, Checks.READ, Checks.ARGUMENT, Checks.COPY, Checks.SELF, Checks.FROM, Checks.FUNDS};
    for (int kind : pushers) {
      for (int i = 0; i < 12; i++) {
        full[i] = o(Checks.PUSH, i);
      }
      full[12] = o(kind, 0);
      CallTraces x = ends("a 13th by " + kind, INDEX, 0, full);
      Checks.due("a 13th: steps", x.trace(0, 0), 13);
      Checks.due("a 13th: value of the 12th", x.value(0, 11), 11);
      Checks.due("a 13th: it touched nothing", x.trace(0, 6), 0);
    }
    full[12] = o(Checks.FUNDS, 2);
    ends("a 13th by FUNDS of none: it looks first", NOTHING, 0, full);
  }

  private static void cells() {
    CallTraces x = ends("cells", 0, 9, o(Checks.PUSH, 9), o(Checks.WRITE, 7), o(Checks.READ, 7), o(Checks.RETURN));
    Checks.due("cell 7", x.cell(0, 7), 9);
    ends("read 8", INDEX, 0, o(Checks.READ, 8));
    ends("read -1", INDEX, 0, o(Checks.READ, -1));
    ends("read 2^32", INDEX, 0, o(Checks.READ, 1L << 32));
    ends("write 8", INDEX, 0, o(Checks.PUSH, 1), o(Checks.WRITE, 8));
    ends("write -1", INDEX, 0, o(Checks.PUSH, 1), o(Checks.WRITE, -1));
    ends("write 2^32", INDEX, 0, o(Checks.PUSH, 1), o(Checks.WRITE, 1L << 32));
    CallTraces y = ends("the value behind a write", 0, 0, o(Checks.PUSH, 3), o(Checks.PUSH, 4), o(Checks.WRITE, 0), o(Checks.WRITE, 0));
    Checks.due("value behind the first write", y.value(0, 2), 3);
    Checks.due("value behind the second write", y.value(0, 3), 0);
  }

  private static void reckons(long x, long y, int a, long want) {
    ends("math " + a, 0, want, o(Checks.PUSH, x), o(Checks.PUSH, y), o(Checks.MATH, a), o(Checks.RETURN));
  }

  private static void math() {
    reckons(7, 3, 0, 10);
    reckons(MAX, 1, 0, MIN);
    reckons(7, 3, 1, 4);
    reckons(MIN, 1, 1, MAX);
    reckons(7, 3, 2, 21);
    reckons(MIN, -1, 2, MIN);
    reckons(MAX, 2, 2, -2);
    reckons(7, 3, 3, 2);
    reckons(-7, 3, 3, -2);
    reckons(MIN, -1, 3, MIN);
    reckons(0, 5, 3, 0);
    reckons(7, 3, 4, 1);
    reckons(-7, 3, 4, -1);
    reckons(7, -3, 4, 1);
    reckons(MIN, -1, 4, 0);
    for (long a : new long[] {-1, 5, 1L << 32, MIN}) {
      ends("no such math", INDEX, 0, o(Checks.PUSH, 1), o(Checks.PUSH, 1), o(Checks.MATH, a));
      ends("no such math ahead of ZERO", INDEX, 0, o(Checks.PUSH, 1), o(Checks.PUSH, 0), o(Checks.MATH, a));
    }
    ends("by zero", ZERO, 0, o(Checks.PUSH, 1), o(Checks.PUSH, 0), o(Checks.MATH, 3));
    ends("rest by zero", ZERO, 0, o(Checks.PUSH, 1), o(Checks.PUSH, 0), o(Checks.MATH, 4));
    ends("times zero", 0, 0, o(Checks.PUSH, 1), o(Checks.PUSH, 0), o(Checks.MATH, 2), o(Checks.RETURN));
    ends("one to be popped ahead of ZERO", INDEX, 0, o(Checks.PUSH, 0), o(Checks.MATH, 3));
  }

  private static void jumps() {
    ends("jump over", 0, 0, o(Checks.PUSH, -1), o(Checks.JUMP, 3), o(Checks.FAIL, 1), o(Checks.PUSH, 2));
    ends("no jump", OWN, 0, o(Checks.PUSH, 0), o(Checks.JUMP, 3), o(Checks.FAIL, 1), o(Checks.PUSH, 2));
    ends("no jump does not look", 0, 0, o(Checks.PUSH, 0), o(Checks.JUMP, 99));
    ends("no jump does not look below", 0, 0, o(Checks.PUSH, 0), o(Checks.JUMP, -1));
    ends("jump behind the last op", INDEX, 0, o(Checks.PUSH, 1), o(Checks.JUMP, 2));
    ends("jump to -1", INDEX, 0, o(Checks.PUSH, 1), o(Checks.JUMP, -1));
    ends("jump to 2^32", INDEX, 0, o(Checks.PUSH, 1), o(Checks.JUMP, 1L << 32));
    ends("jump of a long whose low half is 0", INDEX, 0, o(Checks.PUSH, 1L << 32), o(Checks.JUMP, 9));
    CallTraces x = ends("round and round", SPENT, 0, o(Checks.PUSH, 1), o(Checks.JUMP, 0));
    Checks.due("round and round: steps", x.trace(0, 0), 100);
    Checks.due("round and round: op of the last step", x.step(0, 99, 3), 1);
    Checks.due("round and round: the last step did not fail", x.step(0, 99, 6), 0);
    ends("jump to itself", INDEX, 0, o(Checks.PUSH, 1), o(Checks.PUSH, 1), o(Checks.JUMP, 2));
  }

  private static void sends() {
    CallTraces x = ends("send all", 0, 0, o(Checks.PUSH, 1000), o(Checks.SEND, 1));
    Checks.due("send all: from", x.balance(0), 0);
    Checks.due("send all: to", x.balance(1), 2000);
    ends("send one too many", LACK, 0, o(Checks.PUSH, 1001), o(Checks.SEND, 1));
    ends("send below 0", LACK, 0, o(Checks.PUSH, -1), o(Checks.SEND, 1));
    ends("send the least long", LACK, 0, o(Checks.PUSH, MIN), o(Checks.SEND, 1));
    ends("send 0", 0, 0, o(Checks.PUSH, 0), o(Checks.SEND, 1));
    ends("send to none", NOTHING, 0, o(Checks.PUSH, 1), o(Checks.SEND, 2));
    ends("send to -1, ahead of LACK", NOTHING, 0, o(Checks.PUSH, -1), o(Checks.SEND, -1));
    ends("send to 2^32", NOTHING, 0, o(Checks.PUSH, 1), o(Checks.SEND, 1L << 32));
    ends("pop ahead of NOTHING", INDEX, 0, o(Checks.SEND, 2));
    CallTraces y = ends("send to itself", 0, 0, o(Checks.PUSH, 1000), o(Checks.SEND, 0));
    Checks.due("send to itself: balance", y.balance(0), 1000);
    Checks.due("send to itself: sent", y.flow(0, 0, false), 1000);
    Checks.due("send to itself: got", y.flow(0, 0, true), 1000);
  }

  private static void endings() {
    CallTraces x = ends("return", 0, 6, o(Checks.PUSH, 5), o(Checks.PUSH, 6), o(Checks.RETURN), o(Checks.FAIL, 1));
    Checks.due("return: value is what is left on top", x.value(0, 2), 5);
    Checks.due("return: steps", x.trace(0, 0), 3);
    ends("return of nothing", INDEX, 0, o(Checks.RETURN));
    CallTraces y = ends("fail", OWN, 0, o(Checks.PUSH, 1), o(Checks.FAIL, 0x1_8000_0001L));
    Checks.due("fail: lowest 32 bits", y.trace(0, 2), 0x8000_0001);
    CallTraces z = ends("fail with 0", OWN, 0, o(Checks.FAIL, 0));
    Checks.due("fail with 0: number", z.trace(0, 2), 0);
  }

  private static void copies() {
    ends("copy the top", 0, 6, o(Checks.PUSH, 5), o(Checks.PUSH, 6), o(Checks.COPY, 0), o(Checks.RETURN));
    ends("copy below", 0, 5, o(Checks.PUSH, 5), o(Checks.PUSH, 6), o(Checks.COPY, 1), o(Checks.RETURN));
    ends("not so many", INDEX, 0, o(Checks.PUSH, 5), o(Checks.PUSH, 6), o(Checks.COPY, 2));
    ends("copy of nothing", INDEX, 0, o(Checks.COPY, 0));
    ends("copy of -1", INDEX, 0, o(Checks.PUSH, 5), o(Checks.COPY, -1));
    ends("copy of 2^32", INDEX, 0, o(Checks.PUSH, 5), o(Checks.COPY, 1L << 32));
  }

  private static void selfAndFrom() {
    ends("self", 0, 0, o(Checks.SELF), o(Checks.RETURN));
    ends("from outside", 0, -1, o(Checks.FROM), o(Checks.RETURN));
    CallTraces x = Checks.scene(3);
    Checks.put(x, 2, 1, o(Checks.PUSH, 0), o(Checks.CALL, 1, 2), o(Checks.RETURN));
    Checks.put(x, 1, 2, o(Checks.FROM), o(Checks.PUSH, 10), o(Checks.MATH, 2), o(Checks.SELF), o(Checks.MATH, 0), o(Checks.RETURN));
    x.call(2, 1, 0, 100);
    Checks.due("self and from within", x.result(0), 21);
  }

  private static void funds() {
    ends("funds", 0, 1000, o(Checks.FUNDS, 1), o(Checks.RETURN));
    ends("funds of a send under way", 0, 1040, o(Checks.PUSH, 40), o(Checks.SEND, 1), o(Checks.FUNDS, 1), o(Checks.RETURN));
    ends("funds of none", NOTHING, 0, o(Checks.FUNDS, 2));
    ends("funds of -1", NOTHING, 0, o(Checks.FUNDS, -1));
    ends("funds of 2^32", NOTHING, 0, o(Checks.FUNDS, 1L << 32));
  }

  private static void calls() {
    for (int kind = Checks.CALL; kind <= Checks.TRY; kind++) {
      CallTraces x = Checks.scene(2);
      Checks.put(x, 0, 0, o(Checks.PUSH, 5), o(Checks.PUSH, 8), o(kind, 1, 3), o(Checks.MATH, 0), o(Checks.RETURN));
      Checks.put(x, 1, 3, o(Checks.ARGUMENT), o(Checks.WRITE, 2), o(Checks.PUSH, 30), o(Checks.RETURN));
      x.call(0, 0, 0, 100);
      Checks.due("call: result", x.result(0), 35);
      Checks.due("call: the cell is that of the account called", x.cell(1, 2), 8);
      Checks.due("call: and not of the one that called", x.cell(0, 2), 0);
      Checks.due("call: value of the call is the argument", x.value(0, 2), 8);
      Checks.due("call: its failure", x.step(0, 2, 6), 0);
      Checks.due("call: depth within", x.step(0, 3, 0), 2);
      Checks.due("call: account within", x.step(0, 3, 1), 1);
      Checks.due("call: member within", x.step(0, 3, 2), 3);
      Checks.due("call: op within", x.step(0, 3, 3), 0);
      Checks.due("call: depth behind", x.step(0, 7, 0), 1);
      Checks.due("call: op behind", x.step(0, 7, 3), 3);
      Checks.due("call: the stack behind", x.value(0, 7), 35);
    }
    CallTraces y = Checks.scene(1);
    Checks.put(y, 0, 0, o(Checks.PUSH, 5), o(Checks.CALL, 0, 1), o(Checks.RETURN));
    Checks.put(y, 0, 1);
    y.call(0, 0, 0, 100);
    Checks.due("a frame without ops: result", y.result(0), 0);
    Checks.due("a frame without ops: deepest", y.trace(0, 4), 2);
    Checks.due("a frame without ops: steps", y.trace(0, 0), 3);
  }

  private static void callFailures() {
    for (int kind = Checks.CALL; kind <= Checks.TRY; kind++) {
      ends("call of nothing popped, ahead of NOTHING", INDEX, 0, o(kind, 9, 9));
      ends("call of no account", NOTHING, 0, o(Checks.PUSH, 6), o(kind, 2, 0));
      ends("call of account -1", NOTHING, 0, o(Checks.PUSH, 6), o(kind, -1, 0));
      ends("call of account 2^32", NOTHING, 0, o(Checks.PUSH, 6), o(kind, 1L << 32, 0));
      ends("call of no member", NOTHING, 0, o(Checks.PUSH, 6), o(kind, 0, 4));
      ends("call of member -1", NOTHING, 0, o(Checks.PUSH, 6), o(kind, 1, -1));
      ends("call of a member without a program", NOTHING, 0, o(Checks.PUSH, 6), o(kind, 1, 0));
    }
    CallTraces x = ends("too deep", 0, -7, o(Checks.ARGUMENT), o(Checks.TRY, 0, 0), o(Checks.RETURN));
    Checks.due("too deep: step", x.step(0, 11, 6), DEEP);
    Checks.due("too deep: value", x.value(0, 11), 0);
    Checks.due("too deep: value of the one around it", x.value(0, 9), 77);
    Checks.due("too deep: steps", x.trace(0, 0), 17);
    Checks.due("too deep: deepest", x.trace(0, 4), 6);
    CallTraces y = Checks.scene(1);
    Checks.put(y, 0, 0, o(Checks.SELF), o(Checks.CALL, 0, 1));
    Checks.put(y, 0, 1, o(Checks.SELF), o(Checks.CALL, 0, 2));
    Checks.put(y, 0, 2, o(Checks.SELF), o(Checks.CALL, 0, 3));
    Checks.put(y, 0, 3, o(Checks.PUSH, 1), o(Checks.FROM), o(Checks.CALL, 0, 4));
    y.call(0, 0, 0, 100);
    Checks.due("NOTHING four deep", y.trace(0, 1), NOTHING);
    CallTraces z = Checks.scene(1);
    Checks.put(z, 0, 0, o(Checks.READ, 0), o(Checks.PUSH, 1), o(Checks.MATH, 0), o(Checks.COPY, 0), o(Checks.WRITE, 0), o(Checks.PUSH, 6), o(Checks.MATH, 1),
        o(Checks.JUMP, 10), o(Checks.SELF), o(Checks.CALL, 9, 0), o(Checks.SELF), o(Checks.CALL, 0, 0));
    z.call(0, 0, 0, 100);
    Checks.due("NOTHING ahead of DEEP: six frames", z.trace(0, 4), 6);
    Checks.due("NOTHING ahead of DEEP", z.trace(0, 1), NOTHING);
  }

  /** Members just behind the last one, where the next account's first one would stand. */
  private static void callsBeside() {
    for (int kind = Checks.CALL; kind <= Checks.TRY; kind++) {
      CallTraces x = Checks.scene(6);
      Checks.put(x, 1, 0, o(Checks.SELF), o(kind, 0, 4));
      Checks.put(x, 0, 3, o(Checks.SELF), o(kind, 1, -1));
      Checks.put(x, 2, 0, o(Checks.SELF), o(kind, 5, 4));
      Checks.put(x, 2, 1, o(Checks.SELF), o(kind, 6, 0));
      Checks.put(x, 2, 2, o(Checks.SELF), o(kind, 0, -1));
      int[][] called = {{1, 0}, {0, 3}, {2, 0}, {2, 1}, {2, 2}};
      for (int i = 0; i < called.length; i++) {
        x.call(called[i][0], called[i][1], 0, 100);
        Checks.due("beside the members: failure " + i, x.trace(i, 1), NOTHING);
        Checks.due("beside the members: steps " + i, x.trace(i, 0), 2);
      }
    }
  }

  private static void tries() {
    CallTraces x = Checks.scene(2);
    Checks.put(x, 0, 0, o(Checks.PUSH, 1), o(Checks.WRITE, 0), o(Checks.PUSH, 4), o(Checks.TRY, 1, 0), o(Checks.RETURN));
    Checks.put(x, 1, 0, o(Checks.PUSH, 2), o(Checks.WRITE, 0), o(Checks.PUSH, 9), o(Checks.SEND, 0), o(Checks.PUSH, 3), o(Checks.TELL, 8), o(Checks.FAIL, 6));
    x.call(0, 0, 0, 100);
    Checks.due("try: failure", x.trace(0, 1), 0);
    Checks.due("try: number", x.trace(0, 2), 0);
    Checks.due("try: result", x.result(0), -OWN);
    Checks.due("try: value of the try", x.value(0, 3), 4);
    Checks.due("try: failure of the try", x.step(0, 3, 6), 0);
    Checks.due("try: failure within", x.step(0, 10, 6), OWN);
    Checks.due("try: cell around stays", x.cell(0, 0), 1);
    Checks.due("try: cell within is undone", x.cell(1, 0), 0);
    Checks.due("try: balance is undone", x.balance(0), 1000);
    Checks.due("try: sent is undone", x.flow(0, 1, false), 0);
    Checks.due("try: got is undone", x.flow(0, 0, true), 0);
    Checks.due("try: tell is undone", x.trace(0, 5), 0);
    Checks.due("try: touches stay", x.trace(0, 6), 2);
    callWithinTry();
    tryWithinTry();
  }

  private static void callWithinTry() {
    CallTraces x = Checks.scene(1);
    Checks.put(x, 0, 0, o(Checks.PUSH, 1), o(Checks.WRITE, 0), o(Checks.SELF), o(Checks.TRY, 0, 1), o(Checks.WRITE, 3));
    Checks.put(x, 0, 1, o(Checks.PUSH, 2), o(Checks.WRITE, 1), o(Checks.SELF), o(Checks.CALL, 0, 2));
    Checks.put(x, 0, 2, o(Checks.PUSH, 3), o(Checks.WRITE, 2), o(Checks.PUSH, 1), o(Checks.PUSH, 0), o(Checks.MATH, 3));
    x.call(0, 0, 0, 100);
    Checks.due("call within try: cell 0", x.cell(0, 0), 1);
    Checks.due("call within try: cell 1", x.cell(0, 1), 0);
    Checks.due("call within try: cell 2", x.cell(0, 2), 0);
    Checks.due("call within try: cell 3", x.cell(0, 3), -ZERO);
    Checks.due("call within try: failure of the call", x.step(0, 7, 6), 0);
  }

  private static void tryWithinTry() {
    CallTraces x = Checks.scene(1);
    Checks.put(x, 0, 0, o(Checks.SELF), o(Checks.TRY, 0, 1), o(Checks.WRITE, 0));
    Checks.put(x, 0, 1, o(Checks.PUSH, 2), o(Checks.WRITE, 1), o(Checks.SELF), o(Checks.TRY, 0, 2), o(Checks.WRITE, 2), o(Checks.ARGUMENT), o(Checks.JUMP, 8), o(Checks.FAIL, 1),
        o(Checks.PUSH, 55), o(Checks.RETURN));
    Checks.put(x, 0, 2, o(Checks.PUSH, 3), o(Checks.WRITE, 1), o(Checks.PUSH, 1001), o(Checks.SEND, 0));
    x.call(0, 0, 0, 100);
    Checks.due("try within try: cell 0", x.cell(0, 0), -OWN);
    Checks.due("try within try: cell 1", x.cell(0, 1), 0);
    Checks.due("try within try: cell 2", x.cell(0, 2), 0);
    x.drop();
    x.call(0, 1, 1, 100);
    Checks.due("try alone: cell 1", x.cell(0, 1), 2);
    Checks.due("try alone: cell 2", x.cell(0, 2), -LACK);
    Checks.due("try alone: result", x.result(0), 55);
  }

  private static void triesDoNotCatch() {
    CallTraces x = Checks.scene(1);
    Checks.put(x, 0, 0, o(Checks.PUSH, 4), o(Checks.WRITE, 0), o(Checks.SELF), o(Checks.TRY, 0, 1), o(Checks.PUSH, 1));
    Checks.put(x, 0, 1, o(Checks.PUSH, 1), o(Checks.JUMP, 0));
    x.call(0, 0, 0, 20);
    Checks.due("SPENT within try: failure", x.trace(0, 1), SPENT);
    Checks.due("SPENT within try: steps", x.trace(0, 0), 20);
    Checks.due("SPENT within try: depth of the last step", x.step(0, 19, 0), 2);
    Checks.due("SPENT within try: cell", x.cell(0, 0), 0);
    CallTraces y = ends("its own failure", NOTHING, 0, o(Checks.SELF), o(Checks.TRY, 1, 0), o(Checks.PUSH, 1));
    Checks.due("its own failure: steps", y.trace(0, 0), 2);
  }

  private static void limits() {
    CallTraces x = Checks.scene(1);
    Checks.put(x, 0, 0, o(Checks.SELF), o(Checks.FROM), o(Checks.SELF));
    x.price(Checks.SELF, 40);
    x.price(Checks.FROM, 20);
    x.call(0, 0, 0, 100);
    Checks.due("limit just enough: failure", x.trace(0, 1), 0);
    Checks.due("limit just enough: prices", x.trace(0, 3), 100);
    x.call(0, 0, 0, 99);
    Checks.due("limit one less: failure", x.trace(1, 1), SPENT);
    Checks.due("limit one less: prices", x.trace(1, 3), 60);
    Checks.due("limit one less: steps", x.trace(1, 0), 2);
    Checks.due("limit one less: the last step did not fail", x.step(1, 1, 6), 0);
    x.call(0, 0, 0, 39);
    Checks.due("no step: failure", x.trace(2, 1), SPENT);
    Checks.due("no step: steps", x.trace(2, 0), 0);
    Checks.due("no step: deepest", x.trace(2, 4), 1);
    CallTraces y = Checks.scene(1);
    Checks.put(y, 0, 0, o(Checks.SELF), o(Checks.CALL, 0, 1));
    Checks.put(y, 0, 1, o(Checks.SELF));
    y.call(0, 0, 0, 2);
    Checks.due("spent within ahead of its first op: deepest", y.trace(0, 4), 2);
    Checks.due("spent within ahead of its first op: failure", y.trace(0, 1), SPENT);
    y.call(0, 0, 0, 3);
    Checks.due("the end costs nothing", y.trace(1, 1), 0);
  }

  private static void undoneInTheEnd() {
    CallTraces x = Checks.scene(2);
    Checks.put(x, 0, 0, o(Checks.PUSH, 5), o(Checks.WRITE, 1), o(Checks.PUSH, 6), o(Checks.SEND, 1), o(Checks.PUSH, 7), o(Checks.TELL, 2), o(Checks.ARGUMENT), o(Checks.JUMP, 9), o(Checks.FAIL, 3),
        o(Checks.PUSH, 9), o(Checks.RETURN));
    long before = x.state();
    x.call(0, 0, 0, 100);
    Checks.due("undone: state", x.state(), before);
    Checks.due("undone: result", x.result(0), 0);
    Checks.due("undone: number", x.trace(0, 2), 3);
    Checks.due("undone: tells", x.trace(0, 5), 0);
    Checks.due("undone: touches stay", x.trace(0, 6), 1);
    Checks.due("undone: sent", x.flow(0, 0, false), 0);
    Checks.due("undone: got", x.flow(0, 1, true), 0);
    x.call(0, 0, 1, 100);
    Checks.due("done: cell", x.cell(0, 1), 5);
    Checks.due("done: balance", x.balance(1), 1006);
    Checks.due("done: result", x.result(1), 9);
    Checks.due("done: tells", x.trace(1, 5), 1);
    Checks.due("done: sent", x.flow(1, 0, false), 6);
    Checks.due("done: got", x.flow(1, 1, true), 6);
  }

  private static void pops() {
    int[] poppers = {Checks.WRITE, Checks.MATH, Checks.JUMP, Checks.SEND, Checks.CALL, Checks.TRY, Checks.TELL, Checks.RETURN};
    for (int kind : poppers) {
      ends("nothing to be popped by " + kind, INDEX, 0, o(kind, 0, 0));
    }
  }
}
