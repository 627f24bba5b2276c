/** Promise 10 and the terms: what each kind of op does, how it fails, and what is undone. */
public final class WalkTest extends Checks {
  public static void main(String[] args) {
    pushers();
    cells();
    math();
    jumps();
    sends();
    endings();
    copies();
    selfAndFrom();
    funds();
    calls();
    callFailures();
    callsBeside();
    tries();
    triesDoNotCatch();
    limits();
    undoneInTheEnd();
    pops();
    end();
  }

  private static void pushers() {
    ends("no ops", 0, 0);
    ends("behind the last op", 0, 0, o(PUSH, 5));
    ends("push", 0, MIN, o(PUSH, MIN), o(RETURN));
    ends("argument", 0, 77, o(ARGUMENT), o(RETURN));
    long[][] full = new long[13][];
    int[] pushers = {PUSH, READ, ARGUMENT, COPY, SELF, FROM, FUNDS};
    for (int kind : pushers) {
      for (int i = 0; i < 12; i++) {
        full[i] = o(PUSH, i);
      }
      full[12] = o(kind, 0);
      CallTraces x = ends("a 13th by " + kind, INDEX, 0, full);
      due("a 13th: steps", x.trace(0, 0), 13);
      due("a 13th: value of the 12th", x.value(0, 11), 11);
      due("a 13th: it touched nothing", x.trace(0, 6), 0);
    }
    full[12] = o(FUNDS, 2);
    ends("a 13th by FUNDS of none: it looks first", NOTHING, 0, full);
  }

  private static void cells() {
    CallTraces x = ends("cells", 0, 9, o(PUSH, 9), o(WRITE, 7), o(READ, 7), o(RETURN));
    due("cell 7", x.cell(0, 7), 9);
    ends("read 8", INDEX, 0, o(READ, 8));
    ends("read -1", INDEX, 0, o(READ, -1));
    ends("read 2^32", INDEX, 0, o(READ, 1L << 32));
    ends("write 8", INDEX, 0, o(PUSH, 1), o(WRITE, 8));
    ends("write -1", INDEX, 0, o(PUSH, 1), o(WRITE, -1));
    ends("write 2^32", INDEX, 0, o(PUSH, 1), o(WRITE, 1L << 32));
    CallTraces y = ends("the value behind a write", 0, 0, o(PUSH, 3), o(PUSH, 4), o(WRITE, 0), o(WRITE, 0));
    due("value behind the first write", y.value(0, 2), 3);
    due("value behind the second write", y.value(0, 3), 0);
  }

  private static void reckons(long x, long y, int a, long want) {
    ends("math " + a, 0, want, o(PUSH, x), o(PUSH, y), o(MATH, a), o(RETURN));
  }

  private static void math() {
    reckons(7, 3, 0, 10);
    reckons(MAX, 1, 0, MIN);
    reckons(7, 3, 1, 4);
    reckons(MIN, 1, 1, MAX);
    reckons(7, 3, 2, 21);
    reckons(MIN, -1, 2, MIN);
    reckons(MAX, 2, 2, -2);
    reckons(7, 3, 3, 2);
    reckons(-7, 3, 3, -2);
    reckons(MIN, -1, 3, MIN);
    reckons(0, 5, 3, 0);
    reckons(7, 3, 4, 1);
    reckons(-7, 3, 4, -1);
    reckons(7, -3, 4, 1);
    reckons(MIN, -1, 4, 0);
    for (long a : new long[] {-1, 5, 1L << 32, MIN}) {
      ends("no such math", INDEX, 0, o(PUSH, 1), o(PUSH, 1), o(MATH, a));
      ends("no such math ahead of ZERO", INDEX, 0, o(PUSH, 1), o(PUSH, 0), o(MATH, a));
    }
    ends("by zero", ZERO, 0, o(PUSH, 1), o(PUSH, 0), o(MATH, 3));
    ends("rest by zero", ZERO, 0, o(PUSH, 1), o(PUSH, 0), o(MATH, 4));
    ends("times zero", 0, 0, o(PUSH, 1), o(PUSH, 0), o(MATH, 2), o(RETURN));
    ends("one to be popped ahead of ZERO", INDEX, 0, o(PUSH, 0), o(MATH, 3));
  }

  private static void jumps() {
    ends("jump over", 0, 0, o(PUSH, -1), o(JUMP, 3), o(FAIL, 1), o(PUSH, 2));
    ends("no jump", OWN, 0, o(PUSH, 0), o(JUMP, 3), o(FAIL, 1), o(PUSH, 2));
    ends("no jump does not look", 0, 0, o(PUSH, 0), o(JUMP, 99));
    ends("no jump does not look below", 0, 0, o(PUSH, 0), o(JUMP, -1));
    ends("jump behind the last op", INDEX, 0, o(PUSH, 1), o(JUMP, 2));
    ends("jump to -1", INDEX, 0, o(PUSH, 1), o(JUMP, -1));
    ends("jump to 2^32", INDEX, 0, o(PUSH, 1), o(JUMP, 1L << 32));
    ends("jump of a long whose low half is 0", INDEX, 0, o(PUSH, 1L << 32), o(JUMP, 9));
    CallTraces x = ends("round and round", SPENT, 0, o(PUSH, 1), o(JUMP, 0));
    due("round and round: steps", x.trace(0, 0), 100);
    due("round and round: op of the last step", x.step(0, 99, 3), 1);
    due("round and round: the last step did not fail", x.step(0, 99, 6), 0);
    ends("jump to itself", INDEX, 0, o(PUSH, 1), o(PUSH, 1), o(JUMP, 2));
  }

  private static void sends() {
    CallTraces x = ends("send all", 0, 0, o(PUSH, 1000), o(SEND, 1));
    due("send all: from", x.balance(0), 0);
    due("send all: to", x.balance(1), 2000);
    ends("send one too many", LACK, 0, o(PUSH, 1001), o(SEND, 1));
    ends("send below 0", LACK, 0, o(PUSH, -1), o(SEND, 1));
    ends("send the least long", LACK, 0, o(PUSH, MIN), o(SEND, 1));
    ends("send 0", 0, 0, o(PUSH, 0), o(SEND, 1));
    ends("send to none", NOTHING, 0, o(PUSH, 1), o(SEND, 2));
    ends("send to -1, ahead of LACK", NOTHING, 0, o(PUSH, -1), o(SEND, -1));
    ends("send to 2^32", NOTHING, 0, o(PUSH, 1), o(SEND, 1L << 32));
    ends("pop ahead of NOTHING", INDEX, 0, o(SEND, 2));
    CallTraces y = ends("send to itself", 0, 0, o(PUSH, 1000), o(SEND, 0));
    due("send to itself: balance", y.balance(0), 1000);
    due("send to itself: sent", y.flow(0, 0, false), 1000);
    due("send to itself: got", y.flow(0, 0, true), 1000);
  }

  private static void endings() {
    CallTraces x = ends("return", 0, 6, o(PUSH, 5), o(PUSH, 6), o(RETURN), o(FAIL, 1));
    due("return: value is what is left on top", x.value(0, 2), 5);
    due("return: steps", x.trace(0, 0), 3);
    ends("return of nothing", INDEX, 0, o(RETURN));
    CallTraces y = ends("fail", OWN, 0, o(PUSH, 1), o(FAIL, 0x1_8000_0001L));
    due("fail: lowest 32 bits", y.trace(0, 2), 0x8000_0001);
    CallTraces z = ends("fail with 0", OWN, 0, o(FAIL, 0));
    due("fail with 0: number", z.trace(0, 2), 0);
  }

  private static void copies() {
    ends("copy the top", 0, 6, o(PUSH, 5), o(PUSH, 6), o(COPY, 0), o(RETURN));
    ends("copy below", 0, 5, o(PUSH, 5), o(PUSH, 6), o(COPY, 1), o(RETURN));
    ends("not so many", INDEX, 0, o(PUSH, 5), o(PUSH, 6), o(COPY, 2));
    ends("copy of nothing", INDEX, 0, o(COPY, 0));
    ends("copy of -1", INDEX, 0, o(PUSH, 5), o(COPY, -1));
    ends("copy of 2^32", INDEX, 0, o(PUSH, 5), o(COPY, 1L << 32));
  }

  private static void selfAndFrom() {
    ends("self", 0, 0, o(SELF), o(RETURN));
    ends("from outside", 0, -1, o(FROM), o(RETURN));
    CallTraces x = scene(3);
    put(x, 2, 1, o(PUSH, 0), o(CALL, 1, 2), o(RETURN));
    put(x, 1, 2, o(FROM), o(PUSH, 10), o(MATH, 2), o(SELF), o(MATH, 0), o(RETURN));
    x.call(2, 1, 0, 100);
    due("self and from within", x.result(0), 21);
  }

  private static void funds() {
    ends("funds", 0, 1000, o(FUNDS, 1), o(RETURN));
    ends("funds of a send under way", 0, 1040, o(PUSH, 40), o(SEND, 1), o(FUNDS, 1), o(RETURN));
    ends("funds of none", NOTHING, 0, o(FUNDS, 2));
    ends("funds of -1", NOTHING, 0, o(FUNDS, -1));
    ends("funds of 2^32", NOTHING, 0, o(FUNDS, 1L << 32));
  }

  private static void calls() {
    for (int kind = CALL; kind <= TRY; kind++) {
      CallTraces x = scene(2);
      put(x, 0, 0, o(PUSH, 5), o(PUSH, 8), o(kind, 1, 3), o(MATH, 0), o(RETURN));
      put(x, 1, 3, o(ARGUMENT), o(WRITE, 2), o(PUSH, 30), o(RETURN));
      x.call(0, 0, 0, 100);
      due("call: result", x.result(0), 35);
      due("call: the cell is that of the account called", x.cell(1, 2), 8);
      due("call: and not of the one that called", x.cell(0, 2), 0);
      due("call: value of the call is the argument", x.value(0, 2), 8);
      due("call: its failure", x.step(0, 2, 6), 0);
      due("call: depth within", x.step(0, 3, 0), 2);
      due("call: account within", x.step(0, 3, 1), 1);
      due("call: member within", x.step(0, 3, 2), 3);
      due("call: op within", x.step(0, 3, 3), 0);
      due("call: depth behind", x.step(0, 7, 0), 1);
      due("call: op behind", x.step(0, 7, 3), 3);
      due("call: the stack behind", x.value(0, 7), 35);
    }
    CallTraces y = scene(1);
    put(y, 0, 0, o(PUSH, 5), o(CALL, 0, 1), o(RETURN));
    put(y, 0, 1);
    y.call(0, 0, 0, 100);
    due("a frame without ops: result", y.result(0), 0);
    due("a frame without ops: deepest", y.trace(0, 4), 2);
    due("a frame without ops: steps", y.trace(0, 0), 3);
  }

  private static void callFailures() {
    for (int kind = CALL; kind <= TRY; kind++) {
      ends("call of nothing popped, ahead of NOTHING", INDEX, 0, o(kind, 9, 9));
      ends("call of no account", NOTHING, 0, o(PUSH, 6), o(kind, 2, 0));
      ends("call of account -1", NOTHING, 0, o(PUSH, 6), o(kind, -1, 0));
      ends("call of account 2^32", NOTHING, 0, o(PUSH, 6), o(kind, 1L << 32, 0));
      ends("call of no member", NOTHING, 0, o(PUSH, 6), o(kind, 0, 4));
      ends("call of member -1", NOTHING, 0, o(PUSH, 6), o(kind, 1, -1));
      ends("call of a member without a program", NOTHING, 0, o(PUSH, 6), o(kind, 1, 0));
    }
    CallTraces x = ends("too deep", 0, -7, o(ARGUMENT), o(TRY, 0, 0), o(RETURN));
    due("too deep: step", x.step(0, 11, 6), DEEP);
    due("too deep: value", x.value(0, 11), 0);
    due("too deep: value of the one around it", x.value(0, 9), 77);
    due("too deep: steps", x.trace(0, 0), 17);
    due("too deep: deepest", x.trace(0, 4), 6);
    CallTraces y = scene(1);
    put(y, 0, 0, o(SELF), o(CALL, 0, 1));
    put(y, 0, 1, o(SELF), o(CALL, 0, 2));
    put(y, 0, 2, o(SELF), o(CALL, 0, 3));
    put(y, 0, 3, o(PUSH, 1), o(FROM), o(CALL, 0, 4));
    y.call(0, 0, 0, 100);
    due("NOTHING four deep", y.trace(0, 1), NOTHING);
    CallTraces z = scene(1);
    put(z, 0, 0, o(READ, 0), o(PUSH, 1), o(MATH, 0), o(COPY, 0), o(WRITE, 0), o(PUSH, 6), o(MATH, 1),
        o(JUMP, 10), o(SELF), o(CALL, 9, 0), o(SELF), o(CALL, 0, 0));
    z.call(0, 0, 0, 100);
    due("NOTHING ahead of DEEP: six frames", z.trace(0, 4), 6);
    due("NOTHING ahead of DEEP", z.trace(0, 1), NOTHING);
  }

  /** Members just behind the last one, where the next account's first one would stand. */
  private static void callsBeside() {
    for (int kind = CALL; kind <= TRY; kind++) {
      CallTraces x = scene(6);
      put(x, 1, 0, o(SELF), o(kind, 0, 4));
      put(x, 0, 3, o(SELF), o(kind, 1, -1));
      put(x, 2, 0, o(SELF), o(kind, 5, 4));
      put(x, 2, 1, o(SELF), o(kind, 6, 0));
      put(x, 2, 2, o(SELF), o(kind, 0, -1));
      int[][] called = {{1, 0}, {0, 3}, {2, 0}, {2, 1}, {2, 2}};
      for (int i = 0; i < called.length; i++) {
        x.call(called[i][0], called[i][1], 0, 100);
        due("beside the members: failure " + i, x.trace(i, 1), NOTHING);
        due("beside the members: steps " + i, x.trace(i, 0), 2);
      }
    }
  }

  private static void tries() {
    CallTraces x = scene(2);
    put(x, 0, 0, o(PUSH, 1), o(WRITE, 0), o(PUSH, 4), o(TRY, 1, 0), o(RETURN));
    put(x, 1, 0, o(PUSH, 2), o(WRITE, 0), o(PUSH, 9), o(SEND, 0), o(PUSH, 3), o(TELL, 8), o(FAIL, 6));
    x.call(0, 0, 0, 100);
    due("try: failure", x.trace(0, 1), 0);
    due("try: number", x.trace(0, 2), 0);
    due("try: result", x.result(0), -OWN);
    due("try: value of the try", x.value(0, 3), 4);
    due("try: failure of the try", x.step(0, 3, 6), 0);
    due("try: failure within", x.step(0, 10, 6), OWN);
    due("try: cell around stays", x.cell(0, 0), 1);
    due("try: cell within is undone", x.cell(1, 0), 0);
    due("try: balance is undone", x.balance(0), 1000);
    due("try: sent is undone", x.flow(0, 1, false), 0);
    due("try: got is undone", x.flow(0, 0, true), 0);
    due("try: tell is undone", x.trace(0, 5), 0);
    due("try: touches stay", x.trace(0, 6), 2);
    callWithinTry();
    tryWithinTry();
  }

  private static void callWithinTry() {
    CallTraces x = scene(1);
    put(x, 0, 0, o(PUSH, 1), o(WRITE, 0), o(SELF), o(TRY, 0, 1), o(WRITE, 3));
    put(x, 0, 1, o(PUSH, 2), o(WRITE, 1), o(SELF), o(CALL, 0, 2));
    put(x, 0, 2, o(PUSH, 3), o(WRITE, 2), o(PUSH, 1), o(PUSH, 0), o(MATH, 3));
    x.call(0, 0, 0, 100);
    due("call within try: cell 0", x.cell(0, 0), 1);
    due("call within try: cell 1", x.cell(0, 1), 0);
    due("call within try: cell 2", x.cell(0, 2), 0);
    due("call within try: cell 3", x.cell(0, 3), -ZERO);
    due("call within try: failure of the call", x.step(0, 7, 6), 0);
  }

  private static void tryWithinTry() {
    CallTraces x = scene(1);
    put(x, 0, 0, o(SELF), o(TRY, 0, 1), o(WRITE, 0));
    put(x, 0, 1, o(PUSH, 2), o(WRITE, 1), o(SELF), o(TRY, 0, 2), o(WRITE, 2), o(ARGUMENT), o(JUMP, 8), o(FAIL, 1),
        o(PUSH, 55), o(RETURN));
    put(x, 0, 2, o(PUSH, 3), o(WRITE, 1), o(PUSH, 1001), o(SEND, 0));
    x.call(0, 0, 0, 100);
    due("try within try: cell 0", x.cell(0, 0), -OWN);
    due("try within try: cell 1", x.cell(0, 1), 0);
    due("try within try: cell 2", x.cell(0, 2), 0);
    x.drop();
    x.call(0, 1, 1, 100);
    due("try alone: cell 1", x.cell(0, 1), 2);
    due("try alone: cell 2", x.cell(0, 2), -LACK);
    due("try alone: result", x.result(0), 55);
  }

  private static void triesDoNotCatch() {
    CallTraces x = scene(1);
    put(x, 0, 0, o(PUSH, 4), o(WRITE, 0), o(SELF), o(TRY, 0, 1), o(PUSH, 1));
    put(x, 0, 1, o(PUSH, 1), o(JUMP, 0));
    x.call(0, 0, 0, 20);
    due("SPENT within try: failure", x.trace(0, 1), SPENT);
    due("SPENT within try: steps", x.trace(0, 0), 20);
    due("SPENT within try: depth of the last step", x.step(0, 19, 0), 2);
    due("SPENT within try: cell", x.cell(0, 0), 0);
    CallTraces y = ends("its own failure", NOTHING, 0, o(SELF), o(TRY, 1, 0), o(PUSH, 1));
    due("its own failure: steps", y.trace(0, 0), 2);
  }

  private static void limits() {
    CallTraces x = scene(1);
    put(x, 0, 0, o(SELF), o(FROM), o(SELF));
    x.price(SELF, 40);
    x.price(FROM, 20);
    x.call(0, 0, 0, 100);
    due("limit just enough: failure", x.trace(0, 1), 0);
    due("limit just enough: prices", x.trace(0, 3), 100);
    x.call(0, 0, 0, 99);
    due("limit one less: failure", x.trace(1, 1), SPENT);
    due("limit one less: prices", x.trace(1, 3), 60);
    due("limit one less: steps", x.trace(1, 0), 2);
    due("limit one less: the last step did not fail", x.step(1, 1, 6), 0);
    x.call(0, 0, 0, 39);
    due("no step: failure", x.trace(2, 1), SPENT);
    due("no step: steps", x.trace(2, 0), 0);
    due("no step: deepest", x.trace(2, 4), 1);
    CallTraces y = scene(1);
    put(y, 0, 0, o(SELF), o(CALL, 0, 1));
    put(y, 0, 1, o(SELF));
    y.call(0, 0, 0, 2);
    due("spent within ahead of its first op: deepest", y.trace(0, 4), 2);
    due("spent within ahead of its first op: failure", y.trace(0, 1), SPENT);
    y.call(0, 0, 0, 3);
    due("the end costs nothing", y.trace(1, 1), 0);
  }

  private static void undoneInTheEnd() {
    CallTraces x = scene(2);
    put(x, 0, 0, o(PUSH, 5), o(WRITE, 1), o(PUSH, 6), o(SEND, 1), o(PUSH, 7), o(TELL, 2), o(ARGUMENT), o(JUMP, 9), o(FAIL, 3),
        o(PUSH, 9), o(RETURN));
    long before = x.state();
    x.call(0, 0, 0, 100);
    due("undone: state", x.state(), before);
    due("undone: result", x.result(0), 0);
    due("undone: number", x.trace(0, 2), 3);
    due("undone: tells", x.trace(0, 5), 0);
    due("undone: touches stay", x.trace(0, 6), 1);
    due("undone: sent", x.flow(0, 0, false), 0);
    due("undone: got", x.flow(0, 1, true), 0);
    x.call(0, 0, 1, 100);
    due("done: cell", x.cell(0, 1), 5);
    due("done: balance", x.balance(1), 1006);
    due("done: result", x.result(1), 9);
    due("done: tells", x.trace(1, 5), 1);
    due("done: sent", x.flow(1, 0, false), 6);
    due("done: got", x.flow(1, 1, true), 6);
  }

  private static void pops() {
    int[] poppers = {WRITE, MATH, JUMP, SEND, CALL, TRY, TELL, RETURN};
    for (int kind : poppers) {
      ends("nothing to be popped by " + kind, INDEX, 0, o(kind, 0, 0));
    }
  }
}
