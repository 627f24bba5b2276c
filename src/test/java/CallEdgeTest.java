/** The Terms from "A CALL" on: each sentence that names an edge has a method of its own, which quotes it. */
public final class CallEdgeTest extends Checks {
  /** Ops that fail by each failure in turn, where member 3 of account 0 has no program and member 1 calls itself. */
  private static final long[][][] FAILING = {
      {o(SELF), o(CALL, 0, 3)},
      {o(READ, 8)},
      {o(SELF), o(SELF), o(MATH, 4)},
      {o(PUSH, -1), o(SEND, 0)},
      {o(FAIL, 12)},
      {o(PUSH, 1), o(JUMP, 0)},
      {o(SELF), o(CALL, 0, 1)}};

  public static void main(String[] args) {
    limitOfOne();
    limitOfHundred();
    limitJustEnough();
    limitAheadOfTheFirst();
    limitWithin();
    endsCostNothing();
    failedCallsLeaveNoMark();
    failedCallsLeaveNoMarkWithin();
    eightTraces();
    stepsThatBegan();
    depthsOneToSix();
    failuresOfStepsThemselves();
    failuresOfCallsThemselves();
    valuesBehindEachKind();
    valuesOfFailures();
    valuesOfCalls();
    fortyTells();
    fortyTellsOfOneCall();
    tellsInThePlaceOfUndone();
    tellsOfFailedCalls();
    touchesOfAllCells();
    touchesOfOpsThatFail();
    touchesOfUndone();
    touchesCountedAnew();
    flowsOfUndone();
    flowsOfFailedCalls();
    flowsThroughAllAccounts();
    digestsOfStates();
    end();
  }

  /** "with a limit": the least. */
  private static void limitOfOne() {
    CallTraces x = scene(1);
    put(x, 0, 0);
    put(x, 0, 1, o(SELF));
    put(x, 0, 2, o(SELF), o(SELF));
    for (int member = 0; member < 3; member++) {
      x.call(0, member, 0, 1);
      due("limit 1: steps of " + member + " ops", x.trace(member, 0), Math.min(member, 1));
      due("limit 1: failure of " + member + " ops", x.trace(member, 1), member == 2 ? SPENT : 0);
    }
  }

  /** "with a limit": the greatest, by a walk of exactly 100 steps. */
  private static void limitOfHundred() {
    CallTraces x = scene(1);
    put(x, 0, 0, then(idle(7), o(SELF), o(CALL, 0, 2), o(CALL, 0, 2), o(CALL, 0, 2), o(CALL, 0, 2), o(RETURN)));
    put(x, 0, 2, idle(10));
    x.call(0, 0, 0, 100);
    x.call(0, 0, 0, 99);
    due("limit 100: steps", x.trace(0, 0), 100);
    due("limit 100: failure", x.trace(0, 1), 0);
    due("limit 100: prices", x.trace(0, 3), 100);
    due("limit 100: kind of the last", x.step(0, 99, 4), RETURN);
    due("limit 99: failure", x.trace(1, 1), SPENT);
    due("limit 99: steps", x.trace(1, 0), 99);
    x.drop();
    x.price(RETURN, 2);
    x.call(0, 0, 0, 100);
    due("limit 100: one too dear", x.trace(0, 1), SPENT);
    due("limit 100: prices of what began", x.trace(0, 3), 99);
  }

  /** "where that would be above the limit together it does not begin: SPENT" */
  private static void limitJustEnough() {
    CallTraces x = scene(1);
    put(x, 0, 0, o(SELF), o(FROM), o(ARGUMENT));
    x.price(SELF, 50);
    x.price(FROM, 49);
    x.call(0, 0, 0, 100);
    x.call(0, 0, 0, 99);
    x.call(0, 0, 0, 98);
    x.call(0, 0, 0, 50);
    int[] failures = {0, SPENT, SPENT, SPENT};
    int[] steps = {3, 2, 1, 1};
    int[] prices = {100, 99, 50, 50};
    for (int i = 0; i < 4; i++) {
      due("just enough: failure " + i, x.trace(i, 1), failures[i]);
      due("just enough: steps " + i, x.trace(i, 0), steps[i]);
      due("just enough: prices " + i, x.trace(i, 3), prices[i]);
      due("just enough: no such step " + i, x.step(i, steps[i], 0), UNKNOWN);
    }
  }

  /** "it does not begin: SPENT": not even the first one. */
  private static void limitAheadOfTheFirst() {
    CallTraces x = scene(1);
    put(x, 0, 0, o(SELF));
    x.price(SELF, 50);
    x.call(0, 0, 0, 49);
    x.call(0, 0, 0, 1);
    for (int trace = 0; trace < 2; trace++) {
      int[] due = {0, SPENT, 0, 0, 1, 0, 0};
      for (int what = 0; what < 7; what++) {
        due("ahead of the first: trace(" + trace + ", " + what + ")", x.trace(trace, what), due[what]);
      }
      due("ahead of the first: value", x.value(trace, 0), UNKNOWN);
      due("ahead of the first: write", x.write(trace, 0), UNKNOWN);
      due("ahead of the first: back(0)", x.back(trace, 0), x.state());
    }
    due("ahead of the first: compare", x.compare(0, 1), NONE);
    due("ahead of the first: halves", x.halves(0, 1), 0);
  }

  /** "each OP that begins costs its PRICE": those of frames within, too, of the same limit. */
  private static void limitWithin() {
    CallTraces x = scene(1);
    put(x, 0, 0, o(SELF), o(CALL, 0, 1), o(RETURN));
    put(x, 0, 1, o(FROM), o(RETURN));
    x.price(FROM, 40);
    x.call(0, 0, 0, 41);
    x.call(0, 0, 0, 42);
    x.call(0, 0, 0, 44);
    int[] steps = {2, 3, 5};
    for (int i = 0; i < 3; i++) {
      due("within: steps " + i, x.trace(i, 0), steps[i]);
      due("within: failure " + i, x.trace(i, 1), i == 2 ? 0 : SPENT);
      due("within: deepest " + i, x.trace(i, 4), 2);
    }
  }

  /** "each OP that begins costs": the end behind the last one does not. */
  private static void endsCostNothing() {
    CallTraces x = scene(1);
    put(x, 0, 0, o(SELF), o(CALL, 0, 1));
    put(x, 0, 1);
    x.call(0, 0, 0, 2);
    due("ends cost nothing", x.trace(0, 1), 0);
    due("ends cost nothing: prices", x.trace(0, 3), 2);
  }

  /** "If the CALL FAILS in the end, all CELLS and BALANCES are as before.": by each failure. */
  private static void failedCallsLeaveNoMark() {
    for (int i = 0; i < FAILING.length; i++) {
      CallTraces x = scene(2);
      put(x, 0, 0, o(PUSH, 5), o(WRITE, 0), o(PUSH, 6), o(WRITE, 7), o(PUSH, 7), o(SEND, 1), o(SELF), o(CALL, 0, 2));
      put(x, 0, 1, o(SELF), o(CALL, 0, 1));
      put(x, 0, 2, FAILING[i]);
      long before = x.state();
      x.call(0, 0, 0, 100);
      due("no mark: failure", x.trace(0, 1), i + 1);
      due("no mark: state behind " + (i + 1), x.state(), before);
      due("no mark: cell", x.cell(0, 7), 0);
      due("no mark: balance", x.balance(1), 1000);
      due("no mark: result", x.result(0), 0);
      due("no mark: it was done ahead of that", x.back(0, x.trace(0, 0)), digest(5, 0, 0, 0, 0, 0, 0, 6, 993, 0, 0, 0, 0, 0, 0, 0, 0, 1007));
    }
  }

  /** The same, where what fails is called: what both did is undone, and what was there before stands. */
  private static void failedCallsLeaveNoMarkWithin() {
    CallTraces x = scene(2);
    put(x, 0, 0, o(ARGUMENT), o(WRITE, 0), o(ARGUMENT), o(CALL, 1, 0));
    put(x, 1, 0, o(PUSH, 8), o(WRITE, 1), o(PUSH, 2), o(SEND, 0), o(ARGUMENT), o(JUMP, 7), o(FAIL, 1), o(SELF));
    x.call(0, 0, 1, 100);
    long before = digest(1, 0, 0, 0, 0, 0, 0, 0, 1002, 0, 8, 0, 0, 0, 0, 0, 0, 998);
    due("no mark within: what stood before", x.state(), before);
    x.call(0, 0, 0, 100);
    due("no mark within: failure", x.trace(1, 1), OWN);
    due("no mark within: state", x.state(), before);
  }

  /** "It leaves a TRACE (8 at most are kept)" */
  private static void eightTraces() {
    CallTraces x = scene(1);
    put(x, 0, 0, o(ARGUMENT), o(RETURN));
    for (int i = 0; i < 8; i++) {
      due("eight traces: call", x.call(0, 0, 30 + i, 100), i);
      due("eight traces: count", x.count(2), i + 1);
    }
    due("eight traces: a ninth", x.call(0, 0, 99, 100), FULL);
    for (int i = 0; i < 8; i++) {
      due("eight traces: result", x.result(i), 30 + i);
    }
    due("eight traces: drop", x.drop(), 8);
    due("eight traces: room again", x.call(0, 0, 50, 100), 0);
    due("eight traces: the new one", x.result(0), 50);
    due("eight traces: the others are gone", x.result(1), UNKNOWN);
  }

  /** "its STEPS are the OPS that began, in order": the one that failed, too, and none behind it. */
  private static void stepsThatBegan() {
    for (int i = 0; i < 5; i++) {
      CallTraces x = scene(1);
      put(x, 0, 0, then(FAILING[i], o(SELF)));
      x.call(0, 0, 0, 100);
      due("began: steps", x.trace(0, 0), FAILING[i].length);
      due("began: the last one's failure", x.step(0, FAILING[i].length - 1, 6), i + 1);
      due("began: prices", x.trace(0, 3), FAILING[i].length);
    }
  }

  /** Six frames within one another, account by account, and back: the depths of their steps. */
  private static void depthsOneToSix() {
    CallTraces x = scene(6);
    for (int i = 0; i < 5; i++) {
      put(x, i, i % 4, o(SELF), o(CALL, i + 1, (i + 1) % 4), o(RETURN));
    }
    put(x, 5, 1, o(PUSH, 66), o(RETURN));
    x.call(0, 0, 0, 100);
    due("depths: result", x.result(0), 66);
    due("depths: steps", x.trace(0, 0), 17);
    for (int k = 0; k < 17; k++) {
      int depth = k < 12 ? k / 2 + 1 : 17 - k;
      due("depths: of step " + k, x.step(0, k, 0), depth);
      due("depths: account of step " + k, x.step(0, k, 1), depth - 1);
      due("depths: member of step " + k, x.step(0, k, 2), (depth - 1) % 4);
    }
  }

  /** "the FAILURE that came out of it itself (0: none ..)" */
  private static void failuresOfStepsThemselves() {
    CallTraces x = scene(1);
    put(x, 0, 0, o(PUSH, 1), o(PUSH, 0), o(JUMP, 99), o(TELL, 1), o(READ, 7), o(WRITE, 0), o(FAIL, 1));
    x.call(0, 0, 0, 100);
    for (int k = 0; k < 7; k++) {
      due("of steps themselves: " + k, x.step(0, k, 6), k == 6 ? OWN : 0);
    }
  }

  /** "of 6, 7 only NOTHING, INDEX, DEEP": not what fails within. */
  private static void failuresOfCallsThemselves() {
    for (int kind = CALL; kind <= TRY; kind++) {
      for (int i = 0; i < FAILING.length; i++) {
        CallTraces x = scene(1);
        put(x, 0, 2, o(PUSH, 31), o(kind, 0, 0), o(RETURN));
        put(x, 0, 0, FAILING[i]);
        put(x, 0, 1, o(SELF), o(CALL, 0, 1));
        x.call(0, 2, 0, 100);
        boolean caught = kind == TRY && i + 1 != SPENT;
        due("of calls themselves: the call's failure", x.trace(0, 1), caught ? 0 : i + 1);
        due("of calls themselves: result", x.result(0), caught ? -1 - i : 0);
        due("of calls themselves: none of the step", x.step(0, 1, 6), 0);
        due("of calls themselves: none of the step ahead", x.step(0, 0, 6), 0);
        due("of calls themselves: its value", x.value(0, 1), 31);
      }
    }
  }

  /** "its VALUE: the top of the STACK behind it (0: it is empty ..)" */
  private static void valuesBehindEachKind() {
    long[] one = o(PUSH, 55);
    int[] poppers = {WRITE, JUMP, SEND, TELL, RETURN};
    for (int kind : poppers) {
      due("value: behind " + kind, ends("value", 0, kind == RETURN ? 6 : 0, one, o(PUSH, kind == JUMP ? 0 : 6), o(kind, 1)).value(0, 2), 55);
      due("value: empty behind " + kind, ends("value", 0, kind == RETURN ? 6 : 0, o(PUSH, kind == JUMP ? 0 : 6), o(kind, 1)).value(0, 1), 0);
    }
    long[] due = {3, 9, 77, 55, 0, -1, 1000};
    int[] pushers = {PUSH, READ, ARGUMENT, COPY, SELF, FROM, FUNDS};
    long[] as = {3, 2, 0, 0, 0, 0, 1};
    for (int i = 0; i < pushers.length; i++) {
      due("value: behind " + pushers[i], ends("value", 0, 0, o(PUSH, 9), o(WRITE, 2), one, o(pushers[i], as[i])).value(0, 3), due[i]);
    }
    due("value: behind MATH", ends("value", 0, 0, one, one, o(MATH, 0)).value(0, 2), 110);
    due("value: behind a jump that jumps", ends("value", 0, 0, one, o(PUSH, 1), o(JUMP, 3), o(SELF)).value(0, 2), 55);
  }

  /** "0: .. of a FAILURE, too": whatever stands on the stack. */
  private static void valuesOfFailures() {
    long[][] stack = {o(PUSH, 55), o(PUSH, 56), o(PUSH, 57)};
    long[][] failing = {o(READ, 8), o(WRITE, 8), o(MATH, 5), o(SEND, 9), o(SEND, -1), o(CALL, 9, 0), o(TRY, 9, 0), o(FAIL, 1), o(COPY, 3), o(FUNDS, 9), o(JUMP, 9)};
    for (long[] op : failing) {
      CallTraces x = scene(1);
      put(x, 0, 0, then(stack, op));
      x.call(0, 0, 0, 100);
      due("value of a failure: it failed", x.step(0, 3, 6) > 0 ? 1 : 0, 1);
      due("value of a failure: " + op[0], x.value(0, 3), 0);
    }
    due("value of a failure: a 13th", ends("value", INDEX, 0, then(pushes(12), o(SELF))).value(0, 12), 0);
    due("value of a failure: ZERO", ends("value", ZERO, 0, o(PUSH, 4), o(PUSH, 4), o(PUSH, 0), o(MATH, 3)).value(0, 3), 0);
  }

  /** "of 6, 7 the ARGUMENT that they give": not what stands below it, nor what they end with. */
  private static void valuesOfCalls() {
    for (int kind = CALL; kind <= TRY; kind++) {
      for (long it : new long[] {MIN, MAX, 0, -1}) {
        CallTraces x = scene(1);
        put(x, 0, 0, o(PUSH, 55), o(PUSH, it), o(kind, 0, 1), o(RETURN));
        put(x, 0, 1, o(PUSH, 8), o(RETURN));
        x.call(0, 0, 0, 100);
        due("value of a call: " + it, x.value(0, 2), it);
        due("value of a call: what it ended with", x.result(0), 8);
      }
    }
  }

  /** Tells n times with words 0 .. n - 1, by members of nine tells and one of the rest. */
  private static CallTraces tells(int n) {
    CallTraces x = scene(2);
    int caller = put(x, 0, 0, o(PUSH, 0));
    put(x, 1, 0, nine(true));
    for (int i = 0; i < n / 9; i++) {
      x.op(caller, CALL, 1, 0);
    }
    for (int i = 0; i < n % 9; i++) {
      x.op(caller, COPY, 0, 0);
      x.op(caller, TELL, 5, 0);
    }
    x.call(0, 0, 0, 100);
    return x;
  }

  private static long[][] nine(boolean returns) {
    long[][] ops = new long[0][];
    for (int i = 0; i < 9; i++) {
      ops = then(ops, o(PUSH, i), o(TELL, 100 + i));
    }
    return returns ? then(ops, o(PUSH, 9), o(RETURN)) : then(ops, o(FAIL, 1));
  }

  /** "TELLS are kept, as they came, 40 at most of a CALL (others are lost)" */
  private static void fortyTells() {
    int[] told = {0, 1, 9, 39, 40, 41, 42};
    for (int n : told) {
      CallTraces x = tells(n);
      int kept = Math.min(n, 40);
      due("tells: no failure by " + n, x.trace(0, 1), 0);
      due("tells: kept of " + n, x.trace(0, 5), kept);
      due("tells: behind the last", x.told(0, kept), UNKNOWN);
      for (int i = 0; i < kept; i++) {
        due("tells: word " + i + " of " + n, x.told(0, i), i < n / 9 * 9 ? i % 9 : n < 9 ? 0 : 9);
      }
      int own = kept - n / 9 * 9;
      due("tells: topic of the last of account 0", x.tell(0, 0, own - 1, 0), own == 0 ? UNKNOWN : 5);
      due("tells: number of the last of account 0", x.tell(0, 0, own - 1, 1), own == 0 ? UNKNOWN : kept - 1);
      due("tells: none such of account 0", x.tell(0, 0, own, 0), UNKNOWN);
      due("tells: none such of account 1", x.tell(0, 1, n / 9 * 9, 0), UNKNOWN);
    }
  }

  /** "40 at most of a CALL": each call has its own. */
  private static void fortyTellsOfOneCall() {
    CallTraces x = tells(41);
    x.call(0, 0, 0, 100);
    x.call(1, 0, 0, 100);
    due("tells of a call: the second", x.trace(1, 5), 40);
    due("tells of a call: the third", x.trace(2, 5), 9);
    due("tells of a call: the first", x.trace(0, 5), 40);
  }

  /** "those of what was undone not (others may come in their place)" */
  private static void tellsInThePlaceOfUndone() {
    CallTraces x = scene(1);
    put(x, 0, 0, o(SELF), o(CALL, 0, 1), o(CALL, 0, 1), o(CALL, 0, 1), o(CALL, 0, 1), o(TRY, 0, 2), o(COPY, 0), o(TELL, 7),
        o(TELL, 8), o(PUSH, 3), o(TELL, 9), o(PUSH, 4), o(TELL, 10), o(PUSH, 5), o(TELL, 11));
    put(x, 0, 1, nine(true));
    put(x, 0, 2, o(PUSH, 1), o(TELL, 1), o(PUSH, 2), o(TELL, 2), o(FAIL, 1));
    x.call(0, 0, 0, 100);
    due("tells undone: no failure", x.trace(0, 1), 0);
    due("tells undone: kept", x.trace(0, 5), 40);
    long[] words = {-OWN, -OWN, 3, 4};
    for (int i = 0; i < 4; i++) {
      due("tells undone: word " + i, x.told(0, 36 + i), words[i]);
      due("tells undone: topic " + i, x.tell(0, 0, 36 + i, 0), 7 + i);
    }
    tellsLostInUndone();
  }

  /** Tells that were lost when there were 40 stay lost, though some of the 40 are undone behind them. */
  private static void tellsLostInUndone() {
    CallTraces x = scene(1);
    put(x, 0, 0, o(SELF), o(CALL, 0, 1), o(CALL, 0, 1), o(CALL, 0, 1), o(CALL, 0, 1), o(TRY, 0, 2), o(TELL, 7));
    put(x, 0, 1, nine(true));
    put(x, 0, 2, o(SELF), o(TELL, 1), o(SELF), o(TELL, 2), o(SELF), o(TELL, 3), o(SELF), o(TELL, 4), o(SELF), o(TELL, 5), o(FAIL, 1));
    x.call(0, 0, 0, 100);
    due("tells lost: kept", x.trace(0, 5), 37);
    due("tells lost: the last", x.tell(0, 0, 36, 0), 7);
    due("tells lost: its word", x.told(0, 36), -OWN);
  }

  /** "those of what was undone not": of a call that failed, none. */
  private static void tellsOfFailedCalls() {
    CallTraces x = scene(1);
    put(x, 0, 0, nine(false));
    x.call(0, 0, 0, 100);
    x.call(0, 0, 0, 4);
    for (int trace = 0; trace < 2; trace++) {
      due("tells of a failed call", x.trace(trace, 5), 0);
      due("tells of a failed call: tell()", x.tell(trace, 0, 0, 0), UNKNOWN);
      due("tells of a failed call: told()", x.told(trace, 0), UNKNOWN);
    }
  }

  /** "A TOUCH: a CELL of an ACCOUNT .. in the order in which they came first": as many as there can be. */
  private static void touchesOfAllCells() {
    CallTraces x = scene(6);
    int reader = x.program();
    for (int cell = 7; cell >= 0; cell--) {
      x.op(reader, READ, cell, 0);
    }
    for (int account = 0; account < 6; account++) {
      x.member(account, 0, reader);
    }
    put(x, 0, 1, o(SELF), o(CALL, 5, 0), o(CALL, 4, 0), o(CALL, 3, 0), o(CALL, 2, 0), o(CALL, 1, 0), o(CALL, 0, 0), o(WRITE, 0), o(SELF), o(WRITE, 7), o(READ, 7));
    x.call(0, 1, 0, 100);
    due("all touches", x.trace(0, 6), 48);
    for (int i = 0; i < 48; i++) {
      due("all touches: account of " + i, x.touch(0, i, 0), 5 - i / 8);
      due("all touches: cell of " + i, x.touch(0, i, 1), 7 - i % 8);
      due("all touches: reads of " + i, x.touch(0, i, 2), i == 40 ? 2 : 1);
      due("all touches: writes of " + i, x.touch(0, i, 3), i == 40 || i == 47 ? 1 : 0);
    }
    due("all touches: behind the last", x.touch(0, 48, 0), UNKNOWN);
  }

  /** "READ or WRITTEN by an OP that did not FAIL" */
  private static void touchesOfOpsThatFail() {
    due("no touch: a 13th", ends("touch", INDEX, 0, then(pushes(12), o(READ, 3))).trace(0, 6), 0);
    due("no touch: nothing to be popped", ends("touch", INDEX, 0, o(WRITE, 3)).trace(0, 6), 0);
    due("no touch: no cell to read", ends("touch", INDEX, 0, o(READ, 8)).trace(0, 6), 0);
    due("no touch: no cell to write", ends("touch", INDEX, 0, o(SELF), o(WRITE, -1)).trace(0, 6), 0);
    CallTraces x = ends("touch ahead of what fails", INDEX, 0, o(READ, 3), o(WRITE, 3), o(WRITE, 3));
    due("touch ahead of what fails: reads", x.touch(0, 0, 2), 1);
    due("touch ahead of what fails: writes", x.touch(0, 0, 3), 1);
    CallTraces y = scene(1);
    put(y, 0, 0, o(SELF), o(WRITE, 3));
    y.call(0, 0, 0, 1);
    due("no touch: it did not begin", y.trace(0, 6), 0);
  }

  /** "(also in what was undone)": in a try that was caught, and in a call that failed. */
  private static void touchesOfUndone() {
    CallTraces x = scene(1);
    put(x, 0, 0, o(SELF), o(TRY, 0, 1), o(WRITE, 4), o(ARGUMENT), o(JUMP, 6), o(FAIL, 1), o(SELF));
    put(x, 0, 1, o(SELF), o(WRITE, 5), o(READ, 4), o(FAIL, 1));
    for (int argument = 0; argument < 2; argument++) {
      x.call(0, 0, argument, 100);
      due("touches of what was undone", x.trace(argument, 6), 2);
      int[][] due = {{0, 5, 0, 1}, {0, 4, 1, 1}};
      for (int i = 0; i < 8; i++) {
        due("touches of what was undone: " + i, x.touch(argument, i / 4, i % 4), due[i / 4][i % 4]);
      }
    }
    due("touches of what was undone: the cell", x.cell(0, 5), 0);
  }

  /** "how often READ, WRITTEN": of one call alone, though its trace comes in another one's place. */
  private static void touchesCountedAnew() {
    CallTraces x = scene(1);
    put(x, 0, 0, o(READ, 2), o(WRITE, 3), o(READ, 2), o(WRITE, 3));
    for (int round = 0; round < 3; round++) {
      x.call(0, 0, 0, 100);
      x.back(0, 4);
      due("touches anew: count", x.trace(0, 6), 2);
      due("touches anew: read", x.touch(0, 0, 2), 2);
      due("touches anew: read, not written", x.touch(0, 0, 3), 0);
      due("touches anew: written", x.touch(0, 1, 3), 2);
      due("touches anew: written, not read", x.touch(0, 1, 2), 0);
      x.drop();
    }
  }

  /** "SENT, GOT of an ACCOUNT: what SENDS moved, but those that were undone" */
  private static void flowsOfUndone() {
    CallTraces x = scene(2);
    put(x, 0, 0, o(PUSH, 10), o(SEND, 1), o(SELF), o(TRY, 0, 1), o(TRY, 0, 2), o(PUSH, 0), o(SEND, 1));
    put(x, 0, 1, o(PUSH, 20), o(SEND, 1), o(SELF), o(TRY, 0, 2), o(FAIL, 1));
    put(x, 0, 2, o(PUSH, 3), o(SEND, 1), o(PUSH, 4), o(SEND, 0));
    x.call(0, 0, 0, 100);
    due("flows: sent", x.flow(0, 0, false), 17);
    due("flows: got of the one that sends", x.flow(0, 0, true), 4);
    due("flows: got", x.flow(0, 1, true), 13);
    due("flows: sent of the one that gets", x.flow(0, 1, false), 0);
    due("flows: balance", x.balance(1), 1013);
    due("flows: a send that lacks", ends("flow", LACK, 0, o(PUSH, 1001), o(SEND, 1)).flow(0, 0, false), 0);
  }

  /** "(all of a CALL that FAILED)" */
  private static void flowsOfFailedCalls() {
    CallTraces x = scene(2);
    put(x, 0, 0, o(PUSH, 10), o(SEND, 1), o(PUSH, 5), o(SEND, 0), o(SELF));
    x.call(0, 0, 0, 100);
    x.call(0, 0, 0, 4);
    due("flows: of the one that did not fail", x.flow(0, 0, false), 15);
    for (int account = 0; account < 2; account++) {
      due("flows of a failed call: sent", x.flow(1, account, false), 0);
      due("flows of a failed call: got", x.flow(1, account, true), 0);
    }
  }

  /** "SENT, GOT of an ACCOUNT": all there can be, from the first to the last, and of each account its own. */
  private static void flowsThroughAllAccounts() {
    CallTraces x = scene(6);
    for (int i = 0; i < 6; i++) {
      x.fund(i, i == 0 ? 1000000000L : 0);
    }
    for (int i = 0; i < 5; i++) {
      put(x, i, 0, o(FUNDS, i), o(SEND, i + 1), o(SELF), o(CALL, i + 1, 0));
    }
    put(x, 5, 0, o(FUNDS, 5), o(SEND, 0));
    x.call(0, 0, 0, 100);
    due("flows around: no failure", x.trace(0, 1), 0);
    for (int i = 0; i < 6; i++) {
      due("flows around: sent of " + i, x.flow(0, i, false), 1000000000L);
      due("flows around: got of " + i, x.flow(0, i, true), 1000000000L);
      due("flows around: balance of " + i, x.balance(i), i == 0 ? 1000000000L : 0);
    }
  }

  /** "THE STATE: CELLS of each ACCOUNT that there was, then its BALANCE, ACCOUNT by ACCOUNT"; "h is 17" */
  private static void digestsOfStates() {
    CallTraces x = new CallTraces();
    due("digest: no account", x.state(), 17);
    for (int accounts = 1; accounts <= 6; accounts++) {
      x.account();
      due("digest: accounts " + accounts, x.state(), digest(new long[9 * accounts]));
    }
    long[] row = new long[54];
    int writer = put(x, 0, 0, o(ARGUMENT), o(WRITE, 0), o(ARGUMENT), o(PUSH, -1), o(MATH, 2), o(WRITE, 7));
    for (int account = 0; account < 6; account++) {
      x.member(account, 0, writer);
      x.fund(account, 20 + account);
      x.call(account, 0, MIN + account, 100);
      x.drop();
      row[account * 9] = MIN + account;
      row[account * 9 + 7] = -(MIN + account);
      row[account * 9 + 8] = 20 + account;
      due("digest: of all that is written", x.state(), digest(row));
    }
    due("digest: the first step", digest(0), 17 * 0x9E3779B97F4A7C15L ^ (17 * 0x9E3779B97F4A7C15L >>> 29));
  }
}
