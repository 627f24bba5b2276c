/** Promises 12 to 22 and 24 to 27: what is asked of traces. */
public final class TraceTest {
  public static void main(String[] args) {
    amounts();
    results();
    steps();
    searches();
    flames();
    flamesOfItself();
    touches();
    flows();
    tells();
    tellsAtTheEdge();
    backs();
    backsOfTries();
    backsAfterFunds();
    compares();
    halves();
    writes();
    outs();
    Checks.end();
  }

  private static long[] o(long... op) {
    return op;
  }

  private static void amounts() {
    CallTraces x = Checks.scene(1);
    Checks.put(x, 0, 0, o(Checks.READ, 0), o(Checks.READ, 1), o(Checks.TELL, 0), o(Checks.TELL, 0), o(Checks.SELF), o(Checks.CALL, 0, 1));
    Checks.put(x, 0, 1);
    x.price(Checks.CALL, 9);
    x.call(0, 0, 0, 100);
    int[] due = {6, 0, 0, 14, 2, 2, 2};
    for (int what = 0; what < 7; what++) {
      Checks.due("12: trace(0, " + what + ")", x.trace(0, what), due[what]);
    }
    Checks.due("12: what 7", x.trace(0, 7), Checks.OUTSIDE);
    Checks.due("12: what -1", x.trace(0, -1), Checks.OUTSIDE);
    Checks.due("12: UNKNOWN ahead of OUTSIDE", x.trace(1, 7), Checks.UNKNOWN);
    Checks.due("12: trace -1", x.trace(-1, 0), Checks.UNKNOWN);
    Checks.due("12: trace 8", x.trace(8, 0), Checks.UNKNOWN);
    reused();
    ownNumbers();
  }

  private static CallTraces reusedBy(int member) {
    CallTraces x = Checks.scene(2);
    Checks.put(x, 0, 0, o(Checks.SELF), o(Checks.CALL, 0, 1), o(Checks.READ, 0), o(Checks.TELL, 0), o(Checks.PUSH, 3), o(Checks.SEND, 1), o(Checks.PUSH, 2), o(Checks.RETURN));
    Checks.put(x, 0, 1);
    Checks.put(x, 0, 2, o(Checks.FAIL, 9));
    x.call(0, 0, 0, 100);
    x.drop();
    Checks.due("20: trace 0 is gone", x.tell(0, 0, 0, 0), Checks.UNKNOWN);
    Checks.due("21: trace 0 is gone", x.told(0, 0), Checks.UNKNOWN);
    Checks.due("18: trace 0 is gone", x.touch(0, 0, 0), Checks.UNKNOWN);
    Checks.due("19: trace 0 is gone", x.flow(0, 0, false), Checks.UNKNOWN);
    x.call(0, member, 0, 100);
    return x;
  }

  private static void reused() {
    int[][] due = {{0, 0, 0, 0, 1, 0, 0}, {1, 5, 9, 1, 1, 0, 0}};
    for (int member = 1; member <= 2; member++) {
      CallTraces x = reusedBy(member);
      for (int what = 0; what < 7; what++) {
        Checks.due("12: a new trace in an old one's place, " + what, x.trace(0, what), due[member - 1][what]);
      }
      Checks.due("13: a new trace in an old one's place", x.result(0), 0);
      Checks.due("19: a new trace in an old one's place", x.flow(0, 0, false) + x.flow(0, 1, true), 0);
      Checks.due("18: a new trace in an old one's place", x.touch(0, 0, 0), Checks.UNKNOWN);
      Checks.due("20: a new trace in an old one's place", x.tell(0, 0, 0, 0), Checks.UNKNOWN);
    }
    CallTraces y = reusedBy(2);
    y.drop();
    y.call(0, 1, 0, 100);
    Checks.due("12: behind a failure: none", y.trace(0, 1), 0);
    Checks.due("12: behind a failure: no number", y.trace(0, 2), 0);
  }

  private static void ownNumbers() {
    CallTraces x = Checks.scene(1);
    Checks.put(x, 0, 0, o(Checks.SELF), o(Checks.TRY, 0, 1), o(Checks.WRITE, 9));
    Checks.put(x, 0, 1, o(Checks.FAIL, 5));
    Checks.put(x, 0, 2, o(Checks.SELF), o(Checks.TRY, 0, 1), o(Checks.SELF), o(Checks.CALL, 0, 3));
    Checks.put(x, 0, 3, o(Checks.FAIL, -6));
    x.call(0, 0, 0, 100);
    Checks.due("12: INDEX behind an OWN that was caught", x.trace(0, 1), 2);
    Checks.due("12: its number", x.trace(0, 2), 0);
    x.call(0, 2, 0, 100);
    Checks.due("12: OWN behind an OWN that was caught", x.trace(1, 1), 5);
    Checks.due("12: its number", x.trace(1, 2), -6);
  }

  private static void results() {
    CallTraces x = Checks.scene(1);
    Checks.put(x, 0, 0, o(Checks.ARGUMENT), o(Checks.RETURN));
    x.call(0, 0, Long.MAX_VALUE, 2);
    x.call(0, 0, 5, 1);
    Checks.due("13: result", x.result(0), Long.MAX_VALUE);
    Checks.due("13: FAILED", x.result(1), 0);
    Checks.due("13: trace 2", x.result(2), Checks.UNKNOWN);
    Checks.due("13: trace -1", x.result(-1), Checks.UNKNOWN);
  }

  private static void steps() {
    CallTraces x = Checks.scene(6);
    Checks.put(x, 4, 2, o(Checks.PUSH, 6), o(Checks.CALL, 5, 3));
    Checks.put(x, 5, 3, o(Checks.SELF), o(Checks.PUSH, 0), o(Checks.MATH, 4));
    x.price(Checks.MATH, 50);
    x.call(4, 2, 0, 100);
    int[] call = {1, 4, 2, 1, Checks.CALL, 1, 0};
    int[] math = {2, 5, 3, 2, Checks.MATH, 50, 3};
    for (int what = 0; what < 7; what++) {
      Checks.due("14: step(0, 1, " + what + ")", x.step(0, 1, what), call[what]);
      Checks.due("14: step(0, 4, " + what + ")", x.step(0, 4, what), math[what]);
    }
    Checks.due("14: what 7", x.step(0, 0, 7), Checks.OUTSIDE);
    Checks.due("14: what -1", x.step(0, 0, -1), Checks.OUTSIDE);
    Checks.due("14: UNKNOWN ahead of OUTSIDE", x.step(0, 5, 7), Checks.UNKNOWN);
    Checks.due("14: k -1", x.step(0, -1, 0), Checks.UNKNOWN);
    Checks.due("14: trace 1", x.step(1, 0, 0), Checks.UNKNOWN);
    long[] values = {6, 6, 5, 0, 0};
    for (int k = 0; k < 5; k++) {
      Checks.due("15: value(0, " + k + ")", x.value(0, k), values[k]);
    }
    Checks.due("15: k 5", x.value(0, 5), Checks.UNKNOWN);
    Checks.due("15: k -1", x.value(0, -1), Checks.UNKNOWN);
    Checks.due("15: trace 1", x.value(1, 0), Checks.UNKNOWN);
    Checks.due("15: trace -1", x.value(-1, 0), Checks.UNKNOWN);
  }

  private static void searches() {
    CallTraces x = Checks.scene(1);
    Checks.put(x, 0, 0, o(Checks.SELF), o(Checks.FROM), o(Checks.SELF));
    x.call(0, 0, 0, 100);
    Checks.due("16: from 0", x.search(0, Checks.SELF, 0), 0);
    Checks.due("16: from 1", x.search(0, Checks.SELF, 1), 2);
    Checks.due("16: from 3", x.search(0, Checks.SELF, 3), Checks.NONE);
    Checks.due("16: from the greatest", x.search(0, Checks.SELF, Integer.MAX_VALUE), Checks.NONE);
    Checks.due("16: another kind", x.search(0, Checks.PUSH, 0), Checks.NONE);
    Checks.due("16: kind 16", x.search(0, 16, 0), Checks.NONE);
    Checks.due("16: kind -1", x.search(0, -1, 0), Checks.NONE);
    Checks.due("16: from -1", x.search(0, Checks.SELF, -1), Checks.OUTSIDE);
    Checks.due("16: UNKNOWN ahead of OUTSIDE", x.search(1, Checks.SELF, -1), Checks.UNKNOWN);
  }

  private static void flames() {
    CallTraces x = Checks.scene(2);
    Checks.put(x, 0, 0, o(Checks.SELF), o(Checks.CALL, 1, 0), o(Checks.CALL, 1, 1), o(Checks.CALL, 1, 0), o(Checks.PUSH, 1));
    Checks.put(x, 1, 0, o(Checks.FROM), o(Checks.CALL, 1, 1), o(Checks.FUNDS, 0));
    Checks.put(x, 1, 1, o(Checks.ARGUMENT), o(Checks.RETURN));
    x.price(Checks.ARGUMENT, 10);
    x.price(Checks.FUNDS, 3);
    x.call(0, 0, 0, 100);
    Checks.due("17: outermost", x.flame(0, 0, 0, false), 5);
    Checks.due("17: outermost with", x.flame(0, 0, 0, true), 48);
    Checks.due("17: middle", x.flame(0, 1, 0, false), 10);
    Checks.due("17: middle with", x.flame(0, 1, 0, true), 32);
    Checks.due("17: innermost", x.flame(0, 1, 1, false), 33);
    Checks.due("17: innermost with", x.flame(0, 1, 1, true), 33);
    Checks.due("17: a member without a program", x.flame(0, 1, 3, true), 0);
    Checks.due("17: another account's member", x.flame(0, 0, 1, true), 0);
    Checks.due("17: member 4", x.flame(0, 0, 4, true), Checks.OUTSIDE);
    Checks.due("17: member -1", x.flame(0, 0, -1, false), Checks.OUTSIDE);
    Checks.due("17: UNKNOWN ahead of OUTSIDE", x.flame(0, 2, 4, true), Checks.UNKNOWN);
    Checks.due("17: trace 1", x.flame(1, 0, 4, true), Checks.UNKNOWN);
    Checks.due("17: account -1", x.flame(0, -1, 0, true), Checks.UNKNOWN);
  }

  private static void flamesOfItself() {
    CallTraces x = Checks.scene(1);
    Checks.put(x, 0, 0, o(Checks.SELF), o(Checks.CALL, 0, 1), o(Checks.PUSH, 0));
    Checks.put(x, 0, 1, o(Checks.READ, 0), o(Checks.JUMP, 6), o(Checks.PUSH, 1), o(Checks.WRITE, 0), o(Checks.SELF), o(Checks.CALL, 0, 2), o(Checks.PUSH, 0));
    Checks.put(x, 0, 2, o(Checks.SELF), o(Checks.CALL, 0, 1), o(Checks.PUSH, 0));
    x.call(0, 0, 0, 100);
    Checks.due("17: steps", x.trace(0, 0), 16);
    Checks.due("17: within itself", x.flame(0, 0, 1, false), 10);
    Checks.due("17: within itself, each step once", x.flame(0, 0, 1, true), 13);
    Checks.due("17: around itself", x.flame(0, 0, 2, true), 6);
  }

  private static void touches() {
    CallTraces x = Checks.scene(2);
    Checks.put(x, 0, 0, o(Checks.READ, 7), o(Checks.WRITE, 2), o(Checks.SELF), o(Checks.TRY, 1, 0), o(Checks.WRITE, 7), o(Checks.READ, 7), o(Checks.READ, 2), o(Checks.READ, 8));
    Checks.put(x, 1, 0, o(Checks.READ, 2), o(Checks.WRITE, 2), o(Checks.SELF), o(Checks.WRITE, 2), o(Checks.SELF), o(Checks.WRITE, -1));
    x.call(0, 0, 0, 100);
    Checks.due("18: the call failed", x.trace(0, 1), 2);
    Checks.due("18: touches", x.trace(0, 6), 3);
    int[][] due = {{0, 7, 2, 1}, {0, 2, 1, 1}, {1, 2, 1, 2}};
    for (int i = 0; i < 3; i++) {
      for (int what = 0; what < 4; what++) {
        Checks.due("18: touch(0, " + i + ", " + what + ")", x.touch(0, i, what), due[i][what]);
      }
    }
    Checks.due("18: what 4", x.touch(0, 0, 4), Checks.OUTSIDE);
    Checks.due("18: what -1", x.touch(0, 0, -1), Checks.OUTSIDE);
    Checks.due("18: UNKNOWN ahead of OUTSIDE", x.touch(0, 3, 4), Checks.UNKNOWN);
    Checks.due("18: i -1", x.touch(0, -1, 0), Checks.UNKNOWN);
    Checks.due("18: trace 1", x.touch(1, 0, 0), Checks.UNKNOWN);
  }

  private static void flows() {
    CallTraces x = Checks.scene(3);
    Checks.put(x, 0, 0, o(Checks.PUSH, 10), o(Checks.SEND, 1), o(Checks.PUSH, 5), o(Checks.SEND, 1), o(Checks.PUSH, 3), o(Checks.SEND, 0), o(Checks.SELF), o(Checks.CALL, 1, 0),
        o(Checks.TRY, 1, 1), o(Checks.PUSH, 1), o(Checks.SEND, 2));
    Checks.put(x, 1, 0, o(Checks.PUSH, 7), o(Checks.SEND, 2));
    Checks.put(x, 1, 1, o(Checks.PUSH, 8), o(Checks.SEND, 0), o(Checks.FAIL, 1));
    x.call(0, 0, 0, 100);
    long[] sent = {19, 7, 0};
    long[] got = {3, 15, 8};
    long[] balances = {984, 1008, 1008};
    for (int i = 0; i < 3; i++) {
      Checks.due("19: sent of " + i, x.flow(0, i, false), sent[i]);
      Checks.due("19: got of " + i, x.flow(0, i, true), got[i]);
      Checks.due("19: balance of " + i, x.balance(i), balances[i]);
    }
    Checks.due("19: account 3", x.flow(0, 3, true), Checks.UNKNOWN);
    Checks.due("19: account -1", x.flow(0, -1, false), Checks.UNKNOWN);
    Checks.due("19: trace 1", x.flow(1, 0, true), Checks.UNKNOWN);
  }

  private static void tells() {
    CallTraces x = Checks.scene(3);
    Checks.put(x, 0, 0, o(Checks.PUSH, 10), o(Checks.TELL, 1L << 40), o(Checks.SELF), o(Checks.CALL, 1, 0), o(Checks.TRY, 1, 1), o(Checks.TELL, -3));
    Checks.put(x, 1, 0, o(Checks.PUSH, 20), o(Checks.TELL, 2), o(Checks.PUSH, 30), o(Checks.TELL, 2));
    Checks.put(x, 1, 1, o(Checks.PUSH, 40), o(Checks.TELL, 4), o(Checks.TELL, 5));
    x.call(0, 0, 0, 100);
    Checks.due("20: tells", x.trace(0, 5), 4);
    Checks.due("20: topic", x.tell(0, 0, 0, 0), 1L << 40);
    Checks.due("20: number", x.tell(0, 0, 0, 1), 0);
    Checks.due("20: topic in the place of what was undone", x.tell(0, 0, 1, 0), -3);
    Checks.due("20: its number", x.tell(0, 0, 1, 1), 3);
    Checks.due("20: topic of the other account", x.tell(0, 1, 1, 0), 2);
    Checks.due("20: its number", x.tell(0, 1, 1, 1), 2);
    Checks.due("20: what was undone", x.tell(0, 1, 2, 0), Checks.UNKNOWN);
    Checks.due("20: an account that told nothing", x.tell(0, 2, 0, 0), Checks.UNKNOWN);
    Checks.due("20: i -1", x.tell(0, 0, -1, 0), Checks.UNKNOWN);
    Checks.due("20: account 3", x.tell(0, 3, 0, 0), Checks.UNKNOWN);
    Checks.due("20: trace 1", x.tell(1, 0, 0, 0), Checks.UNKNOWN);
    Checks.due("20: what 2", x.tell(0, 0, 0, 2), Checks.OUTSIDE);
    Checks.due("20: what -1", x.tell(0, 0, 0, -1), Checks.OUTSIDE);
    Checks.due("20: UNKNOWN ahead of OUTSIDE", x.tell(0, 0, 2, 2), Checks.UNKNOWN);
    long[] told = {10, 20, 30, -2};
    for (int i = 0; i < 4; i++) {
      Checks.due("21: told(0, " + i + ")", x.told(0, i), told[i]);
    }
    Checks.due("21: i 4", x.told(0, 4), Checks.UNKNOWN);
    Checks.due("21: i -1", x.told(0, -1), Checks.UNKNOWN);
    Checks.due("21: trace 1", x.told(1, 0), Checks.UNKNOWN);
  }

  private static void tellsAtTheEdge() {
    CallTraces x = Checks.scene(1);
    long[][] nine = new long[18][];
    for (int i = 0; i < 9; i++) {
      nine[2 * i] = o(Checks.PUSH, 100 + i);
      nine[2 * i + 1] = o(Checks.TELL, i);
    }
    long[][] three = {o(Checks.PUSH, 200), o(Checks.TELL, 9), o(Checks.PUSH, 201), o(Checks.TELL, 9), o(Checks.PUSH, 202), o(Checks.TELL, 9), o(Checks.FAIL, 1)};
    long[][] all = {o(Checks.SELF), o(Checks.CALL, 0, 0), o(Checks.CALL, 0, 0), o(Checks.CALL, 0, 0), o(Checks.CALL, 0, 0),
        o(Checks.PUSH, 1), o(Checks.TELL, 50), o(Checks.PUSH, 2), o(Checks.TELL, 50), o(Checks.TRY, 0, 1), o(Checks.TELL, 51), o(Checks.PUSH, 3), o(Checks.TELL, 52)};
    Checks.put(x, 0, 0, nine);
    Checks.put(x, 0, 1, three);
    Checks.put(x, 0, 2, all);
    x.call(0, 2, 0, 100);
    Checks.due("20: the call did not fail", x.trace(0, 1), 0);
    Checks.due("20: 40 at most", x.trace(0, 5), 40);
    Checks.due("20: the 39th's topic", x.tell(0, 0, 38, 0), 51);
    Checks.due("21: the 39th", x.told(0, 38), -5);
    Checks.due("21: the 40th", x.told(0, 39), 3);
    Checks.due("20: the 41st", x.tell(0, 0, 40, 0), Checks.UNKNOWN);
    x.drop();
    x.op(2, Checks.PUSH, 4, 0);
    x.op(2, Checks.TELL, 53, 0);
    x.call(0, 2, 0, 100);
    Checks.due("20: what is lost", x.trace(0, 5), 40);
    Checks.due("20: the last is the 40th", x.tell(0, 0, 39, 0), 52);
  }

  private static void backs() {
    CallTraces x = Checks.scene(2);
    Checks.put(x, 0, 0, o(Checks.PUSH, 5), o(Checks.WRITE, 1), o(Checks.PUSH, 6), o(Checks.SEND, 1), o(Checks.FAIL, 1));
    x.call(0, 0, 0, 100);
    long first = Checks.digest(0, 0, 0, 0, 0, 0, 0, 0, 1000, 0, 0, 0, 0, 0, 0, 0, 0, 1000);
    long written = Checks.digest(0, 5, 0, 0, 0, 0, 0, 0, 1000, 0, 0, 0, 0, 0, 0, 0, 0, 1000);
    long sent = Checks.digest(0, 5, 0, 0, 0, 0, 0, 0, 994, 0, 0, 0, 0, 0, 0, 0, 0, 1006);
    long[] due = {first, first, written, written, sent, sent};
    for (int k = 5; k >= 0; k--) {
      Checks.due("22: back(0, " + k + ")", x.back(0, k), due[k]);
    }
    Checks.due("22: the state is left alone", x.state(), first);
    Checks.due("22: the trace is left alone", x.trace(0, 0), 5);
    Checks.due("22: and so are its touches", x.touch(0, 0, 3), 1);
    Checks.due("22: calls are not counted", x.count(3), 1);
    Checks.due("22: k 6", x.back(0, 6), Checks.UNKNOWN);
    Checks.due("22: k -1", x.back(0, -1), Checks.UNKNOWN);
    Checks.due("22: trace 1", x.back(1, 0), Checks.UNKNOWN);
    Checks.due("22: trace -1", x.back(-1, 0), Checks.UNKNOWN);
  }

  private static void backsOfTries() {
    CallTraces x = Checks.scene(1);
    Checks.put(x, 0, 0, o(Checks.SELF), o(Checks.TRY, 0, 1));
    Checks.put(x, 0, 1, o(Checks.PUSH, 5), o(Checks.WRITE, 1), o(Checks.FAIL, 1));
    x.call(0, 0, 0, 100);
    long first = Checks.digest(0, 0, 0, 0, 0, 0, 0, 0, 1000);
    long written = Checks.digest(0, 5, 0, 0, 0, 0, 0, 0, 1000);
    Checks.due("22: within the try", x.back(0, 4), written);
    Checks.due("22: behind the last step, what the try undid is undone", x.back(0, 5), first);
    x.call(0, 0, 0, 4);
    Checks.due("22: SPENT within the try", x.trace(1, 1), 6);
    Checks.due("22: SPENT: ahead of what is undone in the end", x.back(1, 4), written);
    CallTraces y = Checks.scene(1);
    Checks.put(y, 0, 0);
    y.call(0, 0, 0, 100);
    Checks.due("22: no steps", y.back(0, 0), first);
    Checks.due("22: no steps, k 1", y.back(0, 1), Checks.UNKNOWN);
  }

  private static void backsAfterFunds() {
    CallTraces x = Checks.scene(1);
    Checks.put(x, 0, 0, o(Checks.READ, 0), o(Checks.ARGUMENT), o(Checks.MATH, 0), o(Checks.WRITE, 0));
    x.call(0, 0, 3, 100);
    x.fund(0, 7);
    x.call(0, 0, 4, 100);
    x.fund(0, 8);
    Checks.due("22: the first call's start", x.back(0, 0), Checks.digest(0, 0, 0, 0, 0, 0, 0, 0, 1000));
    Checks.due("22: the first call's end", x.back(0, 4), Checks.digest(3, 0, 0, 0, 0, 0, 0, 0, 1000));
    Checks.due("22: the second call's start", x.back(1, 0), Checks.digest(3, 0, 0, 0, 0, 0, 0, 0, 7));
    Checks.due("22: the second call's end", x.back(1, 4), Checks.digest(7, 0, 0, 0, 0, 0, 0, 0, 7));
    Checks.due("23: now", x.state(), Checks.digest(7, 0, 0, 0, 0, 0, 0, 0, 8));
  }

  /** Traces 0: six steps; 1: the same; 2: another value at step 3; 3: five of the steps; 4: no step. */
  private static CallTraces compared() {
    CallTraces x = Checks.scene(1);
    Checks.put(x, 0, 0, o(Checks.SELF), o(Checks.SELF), o(Checks.SELF), o(Checks.ARGUMENT), o(Checks.SELF), o(Checks.SELF));
    Checks.put(x, 0, 1);
    x.call(0, 0, 1, 100);
    x.call(0, 0, 1, 100);
    x.call(0, 0, 2, 100);
    x.call(0, 0, 1, 5);
    x.call(0, 1, 1, 5);
    return x;
  }

  /** One program of five steps as three members: their traces are unlike in member or account alone. */
  private static CallTraces membersCompared() {
    CallTraces x = Checks.scene(2);
    int program = Checks.put(x, 0, 0, o(Checks.ARGUMENT), o(Checks.ARGUMENT), o(Checks.ARGUMENT), o(Checks.ARGUMENT), o(Checks.ARGUMENT));
    x.member(0, 1, program);
    x.member(1, 0, program);
    x.call(0, 0, 0, 100);
    x.call(0, 1, 0, 100);
    x.call(1, 0, 0, 100);
    x.call(0, 0, 0, 100);
    return x;
  }

  private static void compares() {
    CallTraces x = compared();
    Checks.due("24: with itself", x.compare(0, 0), Checks.NONE);
    Checks.due("24: alike", x.compare(0, 1), Checks.NONE);
    Checks.due("24: a value", x.compare(0, 2), 3);
    Checks.due("24: one has ended", x.compare(0, 3), 5);
    Checks.due("24: the other one has ended", x.compare(3, 0), 5);
    Checks.due("24: unlike ahead of the end", x.compare(2, 3), 3);
    Checks.due("24: no steps", x.compare(4, 0), 0);
    Checks.due("24: trace 5", x.compare(0, 5), Checks.UNKNOWN);
    Checks.due("24: trace -1", x.compare(-1, 0), Checks.UNKNOWN);
    CallTraces y = membersCompared();
    Checks.due("24: a member", y.compare(0, 1), 0);
    Checks.due("24: an account", y.compare(0, 2), 0);
    comparedByFailure();
  }

  /** The second call sends what is no longer there: its last step is unlike in its failure alone. */
  private static void comparedByFailure() {
    CallTraces x = Checks.scene(2);
    Checks.put(x, 0, 0, o(Checks.PUSH, 600), o(Checks.SEND, 1));
    x.call(0, 0, 0, 100);
    x.call(0, 0, 0, 100);
    Checks.due("24: a failure", x.compare(0, 1), 1);
    Checks.due("24: its value is alike", x.value(0, 1) - x.value(1, 1), 0);
  }

  private static void halves() {
    CallTraces x = compared();
    Checks.due("25: with itself", x.halves(0, 0), 3);
    Checks.due("25: alike: 3, 5, 6", x.halves(0, 1), 3);
    Checks.due("25: unlike at 3: 3, 5, 4", x.halves(0, 2), 3);
    Checks.due("25: five alike: 3, 4, 5", x.halves(0, 3), 3);
    Checks.due("25: the other way", x.halves(3, 0), 3);
    Checks.due("25: five, unlike at 3: 3, 4", x.halves(2, 3), 2);
    Checks.due("25: no steps", x.halves(4, 0), 0);
    Checks.due("25: trace 5", x.halves(0, 5), Checks.UNKNOWN);
    Checks.due("25: trace -1", x.halves(-1, 0), Checks.UNKNOWN);
    x.drop();
    x.call(0, 0, 1, 1);
    x.call(0, 0, 1, 1);
    Checks.due("25: one step", x.halves(0, 1), 1);
    CallTraces z = membersCompared();
    Checks.due("25: five alike", z.halves(0, 3), 3);
    Checks.due("25: another member: 3, 1", z.halves(0, 1), 2);
    Checks.due("25: another account: 3, 1", z.halves(0, 2), 2);
    CallTraces y = Checks.scene(1);
    Checks.put(y, 0, 0, o(Checks.ARGUMENT), o(Checks.JUMP, 0));
    y.call(0, 0, 1, 100);
    y.call(0, 0, 1, 100);
    y.call(0, 0, 2, 100);
    Checks.due("14: a hundred steps", y.step(0, 99, 0), 1);
    Checks.due("14: the step behind them", y.step(0, 100, 0), Checks.UNKNOWN);
    Checks.due("16: a hundred steps", y.search(0, Checks.SELF, 0), Checks.NONE);
    Checks.due("17: a hundred steps", y.flame(0, 0, 0, true), 100);
    Checks.due("24: a hundred steps", y.compare(0, 1), Checks.NONE);
    Checks.due("25: a hundred alike: 50, 75, 88, 94, 97, 99, 100", y.halves(0, 1), 7);
    Checks.due("25: a hundred unlike: 50, 25, 12, 6, 3, 1", y.halves(0, 2), 6);
  }

  private static void writes() {
    CallTraces x = Checks.scene(6);
    Checks.put(x, 5, 3, o(Checks.SELF), o(Checks.PUSH, Long.MIN_VALUE), o(Checks.PUSH, Long.MAX_VALUE), o(Checks.PUSH, -10), o(Checks.PUSH, 100),
        o(Checks.SELF), o(Checks.SELF), o(Checks.SELF), o(Checks.SELF), o(Checks.SELF), o(Checks.PUSH, 0), o(Checks.CALL, 4, 2), o(Checks.SELF));
    Checks.put(x, 4, 2, o(Checks.READ, 8));
    x.call(5, 3, 0, 100);
    String[] due = {"1 5.3:0 13 5", "1 5.3:1 0 -9223372036854775808", "1 5.3:2 0 9223372036854775807", "1 5.3:3 0 -10", "1 5.3:4 0 100"};
    for (int k = 0; k < due.length; k++) {
      Checks.due("26: length " + k, x.write(0, k), due[k].length());
      Checks.dueText("26: OUT", Checks.outOf(x, due[k].length()), due[k]);
      Checks.due("27: behind OUT", x.out(due[k].length()), Checks.NONE);
    }
    Checks.due("26: length of a call", x.write(0, 11), 12);
    Checks.dueText("26: a call does not fail of what fails within", Checks.outOf(x, 12), "1 5.3:11 6 0");
    Checks.due("26: length of a failure", x.write(0, 12), 13);
    Checks.dueText("26: a failure", Checks.outOf(x, 13), "2 4.2:0 1 0!2");
    Checks.due("26: k 13", x.write(0, 13), Checks.UNKNOWN);
    Checks.due("26: k -1", x.write(0, -1), Checks.UNKNOWN);
    Checks.due("26: trace 1", x.write(1, 0), Checks.UNKNOWN);
    Checks.dueText("26: the refused changed nothing", Checks.outOf(x, 13), "2 4.2:0 1 0!2");
  }

  private static void outs() {
    CallTraces x = Checks.scene(1);
    Checks.put(x, 0, 0, o(Checks.SELF));
    x.call(0, 0, 0, 100);
    Checks.due("27: nothing is written", x.out(0), Checks.NONE);
    x.write(0, 0);
    Checks.due("27: the first byte", x.out(0), '1');
    Checks.due("27: the last byte", x.out(11), '0');
    Checks.due("27: i 12", x.out(12), Checks.NONE);
    Checks.due("27: i -1", x.out(-1), Checks.NONE);
    Checks.due("27: the greatest i", x.out(Integer.MAX_VALUE), Checks.NONE);
  }
}
