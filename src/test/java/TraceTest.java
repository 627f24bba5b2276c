/** Promises 12 to 22 and 24 to 27: what is asked of traces. */
public final class TraceTest extends Checks {
  public static void main(String[] args) {
    amounts();
    results();
    steps();
    searches();
    flames();
    flamesOfItself();
    touches();
    flows();
    tells();
    tellsAtTheEdge();
    backs();
    backsOfTries();
    backsAfterFunds();
    compares();
    halves();
    writes();
    outs();
    end();
  }

  private static void amounts() {
    CallTraces x = scene(1);
    put(x, 0, 0, o(READ, 0), o(READ, 1), o(TELL, 0), o(TELL, 0), o(SELF), o(CALL, 0, 1));
    put(x, 0, 1);
    x.price(CALL, 9);
    x.call(0, 0, 0, 100);
    int[] due = {6, 0, 0, 14, 2, 2, 2};
    for (int what = 0; what < 7; what++) {
      due("12: trace(0, " + what + ")", x.trace(0, what), due[what]);
    }
    due("12: what 7", x.trace(0, 7), OUTSIDE);
    due("12: what -1", x.trace(0, -1), OUTSIDE);
    due("12: UNKNOWN ahead of OUTSIDE", x.trace(1, 7), UNKNOWN);
    due("12: trace -1", x.trace(-1, 0), UNKNOWN);
    due("12: trace 8", x.trace(8, 0), UNKNOWN);
    reused();
    ownNumbers();
  }

  private static CallTraces reusedBy(int member) {
    CallTraces x = scene(2);
    put(x, 0, 0, o(SELF), o(CALL, 0, 1), o(READ, 0), o(TELL, 0), o(PUSH, 3), o(SEND, 1), o(PUSH, 2), o(RETURN));
    put(x, 0, 1);
    put(x, 0, 2, o(FAIL, 9));
    x.call(0, 0, 0, 100);
    x.drop();
    due("20: trace 0 is gone", x.tell(0, 0, 0, 0), UNKNOWN);
    due("21: trace 0 is gone", x.told(0, 0), UNKNOWN);
    due("18: trace 0 is gone", x.touch(0, 0, 0), UNKNOWN);
    due("19: trace 0 is gone", x.flow(0, 0, false), UNKNOWN);
    x.call(0, member, 0, 100);
    return x;
  }

  private static void reused() {
    int[][] due = {{0, 0, 0, 0, 1, 0, 0}, {1, 5, 9, 1, 1, 0, 0}};
    for (int member = 1; member <= 2; member++) {
      CallTraces x = reusedBy(member);
      for (int what = 0; what < 7; what++) {
        due("12: a new trace in an old one's place, " + what, x.trace(0, what), due[member - 1][what]);
      }
      due("13: a new trace in an old one's place", x.result(0), 0);
      due("19: a new trace in an old one's place", x.flow(0, 0, false) + x.flow(0, 1, true), 0);
      due("18: a new trace in an old one's place", x.touch(0, 0, 0), UNKNOWN);
      due("20: a new trace in an old one's place", x.tell(0, 0, 0, 0), UNKNOWN);
    }
    CallTraces y = reusedBy(2);
    y.drop();
    y.call(0, 1, 0, 100);
    due("12: behind a failure: none", y.trace(0, 1), 0);
    due("12: behind a failure: no number", y.trace(0, 2), 0);
  }

  private static void ownNumbers() {
    CallTraces x = scene(1);
    put(x, 0, 0, o(SELF), o(TRY, 0, 1), o(WRITE, 9));
    put(x, 0, 1, o(FAIL, 5));
    put(x, 0, 2, o(SELF), o(TRY, 0, 1), o(SELF), o(CALL, 0, 3));
    put(x, 0, 3, o(FAIL, -6));
    x.call(0, 0, 0, 100);
    due("12: INDEX behind an OWN that was caught", x.trace(0, 1), 2);
    due("12: its number", x.trace(0, 2), 0);
    x.call(0, 2, 0, 100);
    due("12: OWN behind an OWN that was caught", x.trace(1, 1), 5);
    due("12: its number", x.trace(1, 2), -6);
  }

  private static void results() {
    CallTraces x = scene(1);
    put(x, 0, 0, o(ARGUMENT), o(RETURN));
    x.call(0, 0, Long.MAX_VALUE, 2);
    x.call(0, 0, 5, 1);
    due("13: result", x.result(0), Long.MAX_VALUE);
    due("13: FAILED", x.result(1), 0);
    due("13: trace 2", x.result(2), UNKNOWN);
    due("13: trace -1", x.result(-1), UNKNOWN);
  }

  private static void steps() {
    CallTraces x = scene(6);
    put(x, 4, 2, o(PUSH, 6), o(CALL, 5, 3));
    put(x, 5, 3, o(SELF), o(PUSH, 0), o(MATH, 4));
    x.price(MATH, 50);
    x.call(4, 2, 0, 100);
    int[] call = {1, 4, 2, 1, CALL, 1, 0};
    int[] math = {2, 5, 3, 2, MATH, 50, 3};
    for (int what = 0; what < 7; what++) {
      due("14: step(0, 1, " + what + ")", x.step(0, 1, what), call[what]);
      due("14: step(0, 4, " + what + ")", x.step(0, 4, what), math[what]);
    }
    due("14: what 7", x.step(0, 0, 7), OUTSIDE);
    due("14: what -1", x.step(0, 0, -1), OUTSIDE);
    due("14: UNKNOWN ahead of OUTSIDE", x.step(0, 5, 7), UNKNOWN);
    due("14: k -1", x.step(0, -1, 0), UNKNOWN);
    due("14: trace 1", x.step(1, 0, 0), UNKNOWN);
    long[] values = {6, 6, 5, 0, 0};
    for (int k = 0; k < 5; k++) {
      due("15: value(0, " + k + ")", x.value(0, k), values[k]);
    }
    due("15: k 5", x.value(0, 5), UNKNOWN);
    due("15: k -1", x.value(0, -1), UNKNOWN);
    due("15: trace 1", x.value(1, 0), UNKNOWN);
    due("15: trace -1", x.value(-1, 0), UNKNOWN);
  }

  private static void searches() {
    CallTraces x = scene(1);
    put(x, 0, 0, o(SELF), o(FROM), o(SELF));
    x.call(0, 0, 0, 100);
    due("16: from 0", x.search(0, SELF, 0), 0);
    due("16: from 1", x.search(0, SELF, 1), 2);
    due("16: from 3", x.search(0, SELF, 3), NONE);
    due("16: from the greatest", x.search(0, SELF, Integer.MAX_VALUE), NONE);
    due("16: another kind", x.search(0, PUSH, 0), NONE);
    due("16: kind 16", x.search(0, 16, 0), NONE);
    due("16: kind -1", x.search(0, -1, 0), NONE);
    due("16: from -1", x.search(0, SELF, -1), OUTSIDE);
    due("16: UNKNOWN ahead of OUTSIDE", x.search(1, SELF, -1), UNKNOWN);
  }

  private static void flames() {
    CallTraces x = scene(2);
    put(x, 0, 0, o(SELF), o(CALL, 1, 0), o(CALL, 1, 1), o(CALL, 1, 0), o(PUSH, 1));
    put(x, 1, 0, o(FROM), o(CALL, 1, 1), o(FUNDS, 0));
    put(x, 1, 1, o(ARGUMENT), o(RETURN));
    x.price(ARGUMENT, 10);
    x.price(FUNDS, 3);
    x.call(0, 0, 0, 100);
    due("17: outermost", x.flame(0, 0, 0, false), 5);
    due("17: outermost with", x.flame(0, 0, 0, true), 48);
    due("17: middle", x.flame(0, 1, 0, false), 10);
    due("17: middle with", x.flame(0, 1, 0, true), 32);
    due("17: innermost", x.flame(0, 1, 1, false), 33);
    due("17: innermost with", x.flame(0, 1, 1, true), 33);
    due("17: a member without a program", x.flame(0, 1, 3, true), 0);
    due("17: another account's member", x.flame(0, 0, 1, true), 0);
    due("17: member 4", x.flame(0, 0, 4, true), OUTSIDE);
    due("17: member -1", x.flame(0, 0, -1, false), OUTSIDE);
    due("17: UNKNOWN ahead of OUTSIDE", x.flame(0, 2, 4, true), UNKNOWN);
    due("17: trace 1", x.flame(1, 0, 4, true), UNKNOWN);
    due("17: account -1", x.flame(0, -1, 0, true), UNKNOWN);
  }

  private static void flamesOfItself() {
    CallTraces x = scene(1);
    put(x, 0, 0, o(SELF), o(CALL, 0, 1), o(PUSH, 0));
    put(x, 0, 1, o(READ, 0), o(JUMP, 6), o(PUSH, 1), o(WRITE, 0), o(SELF), o(CALL, 0, 2), o(PUSH, 0));
    put(x, 0, 2, o(SELF), o(CALL, 0, 1), o(PUSH, 0));
    x.call(0, 0, 0, 100);
    due("17: steps", x.trace(0, 0), 16);
    due("17: within itself", x.flame(0, 0, 1, false), 10);
    due("17: within itself, each step once", x.flame(0, 0, 1, true), 13);
    due("17: around itself", x.flame(0, 0, 2, true), 6);
  }

  private static void touches() {
    CallTraces x = scene(2);
    put(x, 0, 0, o(READ, 7), o(WRITE, 2), o(SELF), o(TRY, 1, 0), o(WRITE, 7), o(READ, 7), o(READ, 2), o(READ, 8));
    put(x, 1, 0, o(READ, 2), o(WRITE, 2), o(SELF), o(WRITE, 2), o(SELF), o(WRITE, -1));
    x.call(0, 0, 0, 100);
    due("18: the call failed", x.trace(0, 1), 2);
    due("18: touches", x.trace(0, 6), 3);
    int[][] due = {{0, 7, 2, 1}, {0, 2, 1, 1}, {1, 2, 1, 2}};
    for (int i = 0; i < 3; i++) {
      for (int what = 0; what < 4; what++) {
        due("18: touch(0, " + i + ", " + what + ")", x.touch(0, i, what), due[i][what]);
      }
    }
    due("18: what 4", x.touch(0, 0, 4), OUTSIDE);
    due("18: what -1", x.touch(0, 0, -1), OUTSIDE);
    due("18: UNKNOWN ahead of OUTSIDE", x.touch(0, 3, 4), UNKNOWN);
    due("18: i -1", x.touch(0, -1, 0), UNKNOWN);
    due("18: trace 1", x.touch(1, 0, 0), UNKNOWN);
  }

  private static void flows() {
    CallTraces x = scene(3);
    put(x, 0, 0, o(PUSH, 10), o(SEND, 1), o(PUSH, 5), o(SEND, 1), o(PUSH, 3), o(SEND, 0), o(SELF), o(CALL, 1, 0),
        o(TRY, 1, 1), o(PUSH, 1), o(SEND, 2));
    put(x, 1, 0, o(PUSH, 7), o(SEND, 2));
    put(x, 1, 1, o(PUSH, 8), o(SEND, 0), o(FAIL, 1));
    x.call(0, 0, 0, 100);
    long[] sent = {19, 7, 0};
    long[] got = {3, 15, 8};
    long[] balances = {984, 1008, 1008};
    for (int i = 0; i < 3; i++) {
      due("19: sent of " + i, x.flow(0, i, false), sent[i]);
      due("19: got of " + i, x.flow(0, i, true), got[i]);
      due("19: balance of " + i, x.balance(i), balances[i]);
    }
    due("19: account 3", x.flow(0, 3, true), UNKNOWN);
    due("19: account -1", x.flow(0, -1, false), UNKNOWN);
    due("19: trace 1", x.flow(1, 0, true), UNKNOWN);
  }

  private static void tells() {
    CallTraces x = scene(3);
    put(x, 0, 0, o(PUSH, 10), o(TELL, 1L << 40), o(SELF), o(CALL, 1, 0), o(TRY, 1, 1), o(TELL, -3));
    put(x, 1, 0, o(PUSH, 20), o(TELL, 2), o(PUSH, 30), o(TELL, 2));
    put(x, 1, 1, o(PUSH, 40), o(TELL, 4), o(TELL, 5));
    x.call(0, 0, 0, 100);
    due("20: tells", x.trace(0, 5), 4);
    due("20: topic", x.tell(0, 0, 0, 0), 1L << 40);
    due("20: number", x.tell(0, 0, 0, 1), 0);
    due("20: topic in the place of what was undone", x.tell(0, 0, 1, 0), -3);
    due("20: its number", x.tell(0, 0, 1, 1), 3);
    due("20: topic of the other account", x.tell(0, 1, 1, 0), 2);
    due("20: its number", x.tell(0, 1, 1, 1), 2);
    due("20: what was undone", x.tell(0, 1, 2, 0), UNKNOWN);
    due("20: an account that told nothing", x.tell(0, 2, 0, 0), UNKNOWN);
    due("20: i -1", x.tell(0, 0, -1, 0), UNKNOWN);
    due("20: account 3", x.tell(0, 3, 0, 0), UNKNOWN);
    due("20: trace 1", x.tell(1, 0, 0, 0), UNKNOWN);
    due("20: what 2", x.tell(0, 0, 0, 2), OUTSIDE);
    due("20: what -1", x.tell(0, 0, 0, -1), OUTSIDE);
    due("20: UNKNOWN ahead of OUTSIDE", x.tell(0, 0, 2, 2), UNKNOWN);
    long[] told = {10, 20, 30, -2};
    for (int i = 0; i < 4; i++) {
      due("21: told(0, " + i + ")", x.told(0, i), told[i]);
    }
    due("21: i 4", x.told(0, 4), UNKNOWN);
    due("21: i -1", x.told(0, -1), UNKNOWN);
    due("21: trace 1", x.told(1, 0), UNKNOWN);
  }

  private static void tellsAtTheEdge() {
    CallTraces x = scene(1);
    long[][] nine = new long[18][];
    for (int i = 0; i < 9; i++) {
      nine[2 * i] = o(PUSH, 100 + i);
      nine[2 * i + 1] = o(TELL, i);
    }
    long[][] three = {o(PUSH, 200), o(TELL, 9), o(PUSH, 201), o(TELL, 9), o(PUSH, 202), o(TELL, 9), o(FAIL, 1)};
    long[][] all = {o(SELF), o(CALL, 0, 0), o(CALL, 0, 0), o(CALL, 0, 0), o(CALL, 0, 0),
        o(PUSH, 1), o(TELL, 50), o(PUSH, 2), o(TELL, 50), o(TRY, 0, 1), o(TELL, 51), o(PUSH, 3), o(TELL, 52)};
    put(x, 0, 0, nine);
    put(x, 0, 1, three);
    put(x, 0, 2, all);
    x.call(0, 2, 0, 100);
    due("20: the call did not fail", x.trace(0, 1), 0);
    due("20: 40 at most", x.trace(0, 5), 40);
    due("20: the 39th's topic", x.tell(0, 0, 38, 0), 51);
    due("21: the 39th", x.told(0, 38), -5);
    due("21: the 40th", x.told(0, 39), 3);
    due("20: the 41st", x.tell(0, 0, 40, 0), UNKNOWN);
    x.drop();
    x.op(2, PUSH, 4, 0);
    x.op(2, TELL, 53, 0);
    x.call(0, 2, 0, 100);
    due("20: what is lost", x.trace(0, 5), 40);
    due("20: the last is the 40th", x.tell(0, 0, 39, 0), 52);
  }

  private static void backs() {
    CallTraces x = scene(2);
    put(x, 0, 0, o(PUSH, 5), o(WRITE, 1), o(PUSH, 6), o(SEND, 1), o(FAIL, 1));
    x.call(0, 0, 0, 100);
    long first = digest(0, 0, 0, 0, 0, 0, 0, 0, 1000, 0, 0, 0, 0, 0, 0, 0, 0, 1000);
    long written = digest(0, 5, 0, 0, 0, 0, 0, 0, 1000, 0, 0, 0, 0, 0, 0, 0, 0, 1000);
    long sent = digest(0, 5, 0, 0, 0, 0, 0, 0, 994, 0, 0, 0, 0, 0, 0, 0, 0, 1006);
    long[] due = {first, first, written, written, sent, sent};
    for (int k = 5; k >= 0; k--) {
      due("22: back(0, " + k + ")", x.back(0, k), due[k]);
    }
    due("22: the state is left alone", x.state(), first);
    due("22: the trace is left alone", x.trace(0, 0), 5);
    due("22: and so are its touches", x.touch(0, 0, 3), 1);
    due("22: calls are not counted", x.count(3), 1);
    due("22: k 6", x.back(0, 6), UNKNOWN);
    due("22: k -1", x.back(0, -1), UNKNOWN);
    due("22: trace 1", x.back(1, 0), UNKNOWN);
    due("22: trace -1", x.back(-1, 0), UNKNOWN);
  }

  private static void backsOfTries() {
    CallTraces x = scene(1);
    put(x, 0, 0, o(SELF), o(TRY, 0, 1));
    put(x, 0, 1, o(PUSH, 5), o(WRITE, 1), o(FAIL, 1));
    x.call(0, 0, 0, 100);
    long first = digest(0, 0, 0, 0, 0, 0, 0, 0, 1000);
    long written = digest(0, 5, 0, 0, 0, 0, 0, 0, 1000);
    due("22: within the try", x.back(0, 4), written);
    due("22: behind the last step, what the try undid is undone", x.back(0, 5), first);
    x.call(0, 0, 0, 4);
    due("22: SPENT within the try", x.trace(1, 1), 6);
    due("22: SPENT: ahead of what is undone in the end", x.back(1, 4), written);
    CallTraces y = scene(1);
    put(y, 0, 0);
    y.call(0, 0, 0, 100);
    due("22: no steps", y.back(0, 0), first);
    due("22: no steps, k 1", y.back(0, 1), UNKNOWN);
  }

  private static void backsAfterFunds() {
    CallTraces x = scene(1);
    put(x, 0, 0, o(READ, 0), o(ARGUMENT), o(MATH, 0), o(WRITE, 0));
    x.call(0, 0, 3, 100);
    x.fund(0, 7);
    x.call(0, 0, 4, 100);
    x.fund(0, 8);
    due("22: the first call's start", x.back(0, 0), digest(0, 0, 0, 0, 0, 0, 0, 0, 1000));
    due("22: the first call's end", x.back(0, 4), digest(3, 0, 0, 0, 0, 0, 0, 0, 1000));
    due("22: the second call's start", x.back(1, 0), digest(3, 0, 0, 0, 0, 0, 0, 0, 7));
    due("22: the second call's end", x.back(1, 4), digest(7, 0, 0, 0, 0, 0, 0, 0, 7));
    due("23: now", x.state(), digest(7, 0, 0, 0, 0, 0, 0, 0, 8));
  }

  /** Traces 0: six steps; 1: the same; 2: another value at step 3; 3: five of the steps; 4: no step. */
  private static CallTraces compared() {
    CallTraces x = scene(1);
    put(x, 0, 0, o(SELF), o(SELF), o(SELF), o(ARGUMENT), o(SELF), o(SELF));
    put(x, 0, 1);
    x.call(0, 0, 1, 100);
    x.call(0, 0, 1, 100);
    x.call(0, 0, 2, 100);
    x.call(0, 0, 1, 5);
    x.call(0, 1, 1, 5);
    return x;
  }

  /** One program of five steps as three members: their traces are unlike in member or account alone. */
  private static CallTraces membersCompared() {
    CallTraces x = scene(2);
    int program = put(x, 0, 0, o(ARGUMENT), o(ARGUMENT), o(ARGUMENT), o(ARGUMENT), o(ARGUMENT));
    x.member(0, 1, program);
    x.member(1, 0, program);
    x.call(0, 0, 0, 100);
    x.call(0, 1, 0, 100);
    x.call(1, 0, 0, 100);
    x.call(0, 0, 0, 100);
    return x;
  }

  private static void compares() {
    CallTraces x = compared();
    due("24: with itself", x.compare(0, 0), NONE);
    due("24: alike", x.compare(0, 1), NONE);
    due("24: a value", x.compare(0, 2), 3);
    due("24: one has ended", x.compare(0, 3), 5);
    due("24: the other one has ended", x.compare(3, 0), 5);
    due("24: unlike ahead of the end", x.compare(2, 3), 3);
    due("24: no steps", x.compare(4, 0), 0);
    due("24: trace 5", x.compare(0, 5), UNKNOWN);
    due("24: trace -1", x.compare(-1, 0), UNKNOWN);
    CallTraces y = membersCompared();
    due("24: a member", y.compare(0, 1), 0);
    due("24: an account", y.compare(0, 2), 0);
    comparedByFailure();
  }

  /** The second call sends what is no longer there: its last step is unlike in its failure alone. */
  private static void comparedByFailure() {
    CallTraces x = scene(2);
    put(x, 0, 0, o(PUSH, 600), o(SEND, 1));
    x.call(0, 0, 0, 100);
    x.call(0, 0, 0, 100);
    due("24: a failure", x.compare(0, 1), 1);
    due("24: its value is alike", x.value(0, 1) - x.value(1, 1), 0);
  }

  private static void halves() {
    CallTraces x = compared();
    due("25: with itself", x.halves(0, 0), 3);
    due("25: alike: 3, 5, 6", x.halves(0, 1), 3);
    due("25: unlike at 3: 3, 5, 4", x.halves(0, 2), 3);
    due("25: five alike: 3, 4, 5", x.halves(0, 3), 3);
    due("25: the other way", x.halves(3, 0), 3);
    due("25: five, unlike at 3: 3, 4", x.halves(2, 3), 2);
    due("25: no steps", x.halves(4, 0), 0);
    due("25: trace 5", x.halves(0, 5), UNKNOWN);
    due("25: trace -1", x.halves(-1, 0), UNKNOWN);
    x.drop();
    x.call(0, 0, 1, 1);
    x.call(0, 0, 1, 1);
    due("25: one step", x.halves(0, 1), 1);
    CallTraces z = membersCompared();
    due("25: five alike", z.halves(0, 3), 3);
    due("25: another member: 3, 1", z.halves(0, 1), 2);
    due("25: another account: 3, 1", z.halves(0, 2), 2);
    CallTraces y = scene(1);
    put(y, 0, 0, o(ARGUMENT), o(JUMP, 0));
    y.call(0, 0, 1, 100);
    y.call(0, 0, 1, 100);
    y.call(0, 0, 2, 100);
    due("14: a hundred steps", y.step(0, 99, 0), 1);
    due("14: the step behind them", y.step(0, 100, 0), UNKNOWN);
    due("16: a hundred steps", y.search(0, SELF, 0), NONE);
    due("17: a hundred steps", y.flame(0, 0, 0, true), 100);
    due("24: a hundred steps", y.compare(0, 1), NONE);
    due("25: a hundred alike: 50, 75, 88, 94, 97, 99, 100", y.halves(0, 1), 7);
    due("25: a hundred unlike: 50, 25, 12, 6, 3, 1", y.halves(0, 2), 6);
  }

  private static void writes() {
    CallTraces x = scene(6);
    put(x, 5, 3, o(SELF), o(PUSH, Long.MIN_VALUE), o(PUSH, Long.MAX_VALUE), o(PUSH, -10), o(PUSH, 100),
        o(SELF), o(SELF), o(SELF), o(SELF), o(SELF), o(PUSH, 0), o(CALL, 4, 2), o(SELF));
    put(x, 4, 2, o(READ, 8));
    x.call(5, 3, 0, 100);
    String[] due = {"1 5.3:0 13 5", "1 5.3:1 0 -9223372036854775808", "1 5.3:2 0 9223372036854775807", "1 5.3:3 0 -10", "1 5.3:4 0 100"};
    for (int k = 0; k < due.length; k++) {
      due("26: length " + k, x.write(0, k), due[k].length());
      dueText("26: OUT", outOf(x, due[k].length()), due[k]);
      due("27: behind OUT", x.out(due[k].length()), NONE);
    }
    due("26: length of a call", x.write(0, 11), 12);
    dueText("26: a call does not fail of what fails within", outOf(x, 12), "1 5.3:11 6 0");
    due("26: length of a failure", x.write(0, 12), 13);
    dueText("26: a failure", outOf(x, 13), "2 4.2:0 1 0!2");
    due("26: k 13", x.write(0, 13), UNKNOWN);
    due("26: k -1", x.write(0, -1), UNKNOWN);
    due("26: trace 1", x.write(1, 0), UNKNOWN);
    dueText("26: the refused changed nothing", outOf(x, 13), "2 4.2:0 1 0!2");
  }

  private static void outs() {
    CallTraces x = scene(1);
    put(x, 0, 0, o(SELF));
    x.call(0, 0, 0, 100);
    due("27: nothing is written", x.out(0), NONE);
    x.write(0, 0);
    due("27: the first byte", x.out(0), '1');
    due("27: the last byte", x.out(11), '0');
    due("27: i 12", x.out(12), NONE);
    due("27: i -1", x.out(-1), NONE);
    due("27: the greatest i", x.out(Integer.MAX_VALUE), NONE);
  }
}
