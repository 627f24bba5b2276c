/**
 * The promises one by one: the first and the last number that each call takes, what is empty and what is full. What
 * is refused beside them is in RefusalTest; what walks do at their edges is in TermsEdgeTest and CallEdgeTest.
 */
public final class PromiseEdgeTest extends Checks {
  public static void main(String[] args) {
    newObjects();
    programsWhileKept();
    opsOfFirstAndLast();
    opsTakeAnyNumbers();
    accountsBetweenTraces();
    membersOfFirstAndLast();
    membersOfNone();
    pricesOfFirstAndLast();
    fundsOfFirstAndLast();
    fundsWhileKept();
    cellsOfFirstAndLast();
    balancesOfFirstAndLast();
    callsOfFirstAndLast();
    hundredAndFiftyCalls();
    dropsOfNoneAndAll();
    amountsOfNothing();
    amountsOfFailures();
    amountsOfDepth();
    resultsOfFailures();
    stepsOfFirstAndLast();
    valuesAsRefusals();
    searchesOfFirstAndLast();
    searchesOfAnyKind();
    flamesOfNothing();
    flamesOfAll();
    flamesOnce();
    flamesBeside();
    touchesOfFirstAndLast();
    flowsOfFirstAndLast();
    tellsOfFirstAndLast();
    backsOfFirstAndLast();
    backsBehindTheLast();
    backsOfNoSteps();
    backsLeaveAllAlone();
    comparesOfEnds();
    comparesOfNothing();
    halvesByHalves();
    halvesOfHundred();
    writesOfShortestAndLongest();
    writesOfValues();
    writesOfFailures();
    outsOfFirstAndLast();
    outsWithoutWrites();
    countsOfFirstAndLast();
    end();
  }

  /** 1: "No PROGRAMS, no ACCOUNTS, no TRACES." */
  private static void newObjects() {
    CallTraces x = new CallTraces();
    for (int what = 0; what < 4; what++) {
      due("1: count(" + what + ")", x.count(what), 0);
    }
    due("1: no account is there yet", x.balance(0), UNKNOWN);
    due("1: no program is there yet", x.op(0, 0, 0, 0), UNKNOWN);
    due("1: no trace is there yet", x.trace(0, 0), UNKNOWN);
    due("1: none to drop", x.drop(), 0);
  }

  /** 2: no STATE is told: programs come while traces are kept, up to the last. */
  private static void programsWhileKept() {
    CallTraces x = scene(1);
    put(x, 0, 0);
    x.call(0, 0, 0, 1);
    for (int i = 1; i < 8; i++) {
      due("2: while traces are kept", x.program(), i);
    }
    due("2: FULL while traces are kept", x.program(), FULL);
    x.drop();
    due("2: still FULL", x.program(), FULL);
  }

  /** 3: the first and the last program, the first and the last kind, the first and the last op. */
  private static void opsOfFirstAndLast() {
    CallTraces x = scene(1);
    for (int i = 0; i < 8; i++) {
      x.program();
    }
    for (int program : new int[] {0, 7}) {
      due("3: the first kind", x.op(program, 0, 0, 0), 1);
      due("3: the last kind", x.op(program, 15, 0, 0), 2);
      for (int i = 3; i <= 20; i++) {
        due("3: op " + i, x.op(program, i % 16, 0, 0), i);
      }
      due("3: FULL", x.op(program, 0, 0, 0), FULL);
    }
    due("3: another has room", x.op(6, 0, 0, 0), 1);
  }

  /** 3: a and b are not told to be any numbers: all are taken, and fail in the walk if at all. */
  private static void opsTakeAnyNumbers() {
    for (int kind = 0; kind < 16; kind++) {
      CallTraces x = new CallTraces();
      x.program();
      due("3: the least a and b of kind " + kind, x.op(0, kind, MIN, Integer.MIN_VALUE), 1);
      due("3: the greatest a and b of kind " + kind, x.op(0, kind, MAX, Integer.MAX_VALUE), 2);
    }
  }

  /** 4: "STATE: TRACES are kept": between them accounts come, up to the last. */
  private static void accountsBetweenTraces() {
    CallTraces x = scene(1);
    put(x, 0, 0);
    for (int i = 1; i < 6; i++) {
      x.call(0, 0, 0, 1);
      due("4: STATE", x.account(), STATE);
      due("4: drop", x.drop(), 1);
      due("4: account " + i, x.account(), i);
    }
    due("4: FULL", x.account(), FULL);
  }

  /** 5: "A MEMBER (0 .. 3) of an ACCOUNT is a PROGRAM": first and last of each. */
  private static void membersOfFirstAndLast() {
    CallTraces x = scene(6);
    for (int i = 0; i < 8; i++) {
      x.program();
      x.op(i, PUSH, 60 + i, 0);
      x.op(i, RETURN, 0, 0);
    }
    for (int account : new int[] {0, 5}) {
      for (int member : new int[] {0, 3}) {
        for (int program : new int[] {0, 7}) {
          due("5: member", x.member(account, member, program), 1);
          x.call(account, member, 0, 100);
          due("5: it is that program", x.result(0), 60 + program);
          x.drop();
        }
      }
    }
  }

  /** 5: "program = -1: none. 1." */
  private static void membersOfNone() {
    CallTraces x = scene(1);
    due("5: none where there is no program at all", x.member(0, 0, -1), 1);
    put(x, 0, 0);
    due("5: called", x.call(0, 0, 0, 1), 0);
    x.drop();
    due("5: none", x.member(0, 0, -1), 1);
    due("5: none again", x.member(0, 0, -1), 1);
    due("5: it has no program", x.call(0, 0, 0, 1), STATE);
    due("5: a program again", x.member(0, 0, 0), 1);
    due("5: called again", x.call(0, 0, 0, 1), 0);
  }

  /** 6: "PRICE of a kind (0 .. 15) becomes n (1 .. 50): what it was." */
  private static void pricesOfFirstAndLast() {
    CallTraces x = scene(1);
    for (int kind : new int[] {0, 15}) {
      due("6: the least, as it was", x.price(kind, 1), 1);
      due("6: the greatest", x.price(kind, 50), 1);
      due("6: it was the greatest", x.price(kind, 50), 50);
      due("6: the least again", x.price(kind, 1), 50);
    }
    x.price(PUSH, 50);
    put(x, 0, 0, o(PUSH, 1), o(FUNDS, 0), o(SELF));
    x.call(0, 0, 0, 100);
    due("6: price of the first kind", x.step(0, 0, 5), 50);
    due("6: price of the last kind", x.step(0, 1, 5), 1);
    due("6: price of another", x.step(0, 2, 5), 1);
  }

  /** 7: "The BALANCE of an ACCOUNT becomes n (0 .. 1000000000): what it was." */
  private static void fundsOfFirstAndLast() {
    CallTraces x = new CallTraces();
    for (int i = 0; i < 6; i++) {
      x.account();
    }
    for (int account : new int[] {0, 5}) {
      due("7: the least, as it was", x.fund(account, 0), 0);
      due("7: the greatest", x.fund(account, 1000000000L), 0);
      due("7: balance", x.balance(account), 1000000000L);
      due("7: it was the greatest", x.fund(account, 999999999L), 1000000000L);
      due("7: the least again", x.fund(account, 0), 999999999L);
      due("7: balance", x.balance(account), 0);
    }
  }

  /** 7: no STATE is told: it is done while traces are kept; and what was sent above the greatest is told, too. */
  private static void fundsWhileKept() {
    CallTraces x = scene(2);
    x.fund(0, 1000000000L);
    x.fund(1, 1000000000L);
    put(x, 0, 0, o(FUNDS, 0), o(SEND, 1));
    x.call(0, 0, 0, 100);
    due("7: above the greatest by a send", x.balance(1), 2000000000L);
    due("7: what it was", x.fund(1, 7), 2000000000L);
    due("7: while traces are kept", x.balance(1), 7);
    due("7: the trace's start is left alone", x.back(0, 0), digest(0, 0, 0, 0, 0, 0, 0, 0, 1000000000L, 0, 0, 0, 0, 0, 0, 0, 0, 1000000000L));
  }

  /** 8: "A CELL: what it holds. UNKNOWN: 0; OUTSIDE: 0." */
  private static void cellsOfFirstAndLast() {
    CallTraces x = scene(2);
    int writer = put(x, 0, 0, o(PUSH, -1), o(WRITE, 0), o(PUSH, MIN), o(WRITE, 7));
    x.member(1, 0, writer);
    x.call(0, 0, 0, 100);
    x.call(1, 0, 0, 100);
    for (int account = 0; account < 2; account++) {
      due("8: the first", x.cell(account, 0), -1);
      due("8: the last", x.cell(account, 7), MIN);
      due("8: another", x.cell(account, 1), 0);
      for (int cell : beside(8)) {
        due("8: OUTSIDE", x.cell(account, cell), 0);
      }
    }
    for (int account : beside(2)) {
      due("8: UNKNOWN", x.cell(account, 0), 0);
    }
  }

  /** 9: "The BALANCE of an ACCOUNT." */
  private static void balancesOfFirstAndLast() {
    CallTraces x = new CallTraces();
    for (int i = 0; i < 6; i++) {
      due("9: not yet", x.balance(i), UNKNOWN);
      x.account();
      due("9: at first", x.balance(i), 0);
      x.fund(i, 10 + i);
    }
    for (int i = 0; i < 6; i++) {
      due("9: balance " + i, x.balance(i), 10 + i);
    }
  }

  /** 10: "A CALL with a limit (1 .. 100): its TRACE.": first and last account, member and limit. */
  private static void callsOfFirstAndLast() {
    CallTraces x = scene(6);
    int program = put(x, 0, 0, o(ARGUMENT), o(RETURN));
    x.member(0, 3, program);
    x.member(5, 0, program);
    x.member(5, 3, program);
    int made = 0;
    for (int account : new int[] {0, 5}) {
      for (int member : new int[] {0, 3}) {
        due("10: the least limit", x.call(account, member, MIN, 1), made);
        due("10: the greatest limit", x.call(account, member, MAX, 100), made + 1);
        due("10: the least: SPENT", x.trace(made, 1), SPENT);
        due("10: the greatest: result", x.result(made + 1), MAX);
        due("10: account", x.step(made + 1, 0, 1), account);
        due("10: member", x.step(made + 1, 0, 2), member);
        made += 2;
      }
    }
    due("10: FULL", x.call(0, 0, 0, 1), FULL);
  }

  /** 10: "or there were 150 CALLS": the 150th is made, those that are refused do not count, nor do walks anew. */
  private static void hundredAndFiftyCalls() {
    CallTraces x = scene(1);
    put(x, 0, 0, o(SELF));
    for (int i = 0; i < 149; i++) {
      if (x.call(0, 0, 0, 1) == 7) {
        x.drop();
      }
    }
    x.drop();
    due("10: 149 calls", x.count(3), 149);
    x.call(0, 1, 0, 1);
    x.call(0, 0, 0, 0);
    due("10: refused ones do not count", x.count(3), 149);
    due("10: the 150th", x.call(0, 0, 0, 1), 0);
    due("10: a walk anew", x.back(0, 1), x.state());
    due("10: 150 calls", x.count(3), 150);
    due("10: the 151st, where one trace is kept", x.call(0, 0, 0, 1), FULL);
    due("10: the trace is still told", x.trace(0, 0), 1);
    x.drop();
    due("10: the 151st, where none is kept", x.call(0, 0, 0, 1), FULL);
    due("28: CALLS ever", x.count(3), 150);
  }

  /** 11: "No TRACE is kept: how many were." */
  private static void dropsOfNoneAndAll() {
    CallTraces x = scene(1);
    put(x, 0, 0, o(READ, 0), o(PUSH, 1), o(MATH, 0), o(WRITE, 0));
    due("11: none", x.drop(), 0);
    for (int n = 1; n <= 8; n++) {
      for (int i = 0; i < n; i++) {
        due("11: numbers from 0 on", x.call(0, 0, 0, 100), i);
      }
      due("11: how many were", x.drop(), n);
      due("11: none is kept", x.count(2), 0);
      due("11: none is told", x.trace(0, 0), UNKNOWN);
      due("11: none is left to drop", x.drop(), 0);
    }
    due("11: what they did stands", x.cell(0, 0), 36);
  }

  /** 12: of a call without steps. */
  private static void amountsOfNothing() {
    CallTraces x = scene(1);
    put(x, 0, 0);
    x.call(0, 0, 0, 1);
    int[] due = {0, 0, 0, 0, 1, 0, 0};
    for (int what = 0; what < 7; what++) {
      due("12: trace(0, " + what + ") of no steps", x.trace(0, what), due[what]);
    }
  }

  /** 12: "2 its number (of OWN, else 0 ..)": though an OWN came before it and was caught. */
  private static void amountsOfFailures() {
    CallTraces x = scene(1);
    put(x, 0, 0, o(SELF), o(TRY, 0, 1), o(READ, 8));
    put(x, 0, 1, o(FAIL, 66));
    put(x, 0, 2, o(SELF), o(TRY, 0, 1));
    put(x, 0, 3, o(SELF), o(TRY, 0, 1), o(FAIL, 67));
    int[] failures = {INDEX, OWN, 0, OWN, SPENT};
    int[] numbers = {0, 66, 0, 67, 0};
    for (int i = 0; i < 5; i++) {
      x.call(0, i % 4, 0, i == 4 ? 3 : 100);
      due("12: failure " + i, x.trace(i, 1), failures[i]);
      due("12: number " + i, x.trace(i, 2), numbers[i]);
    }
  }

  /** 12: "4 the greatest DEPTH (of FRAMES, also of those without OPS)" */
  private static void amountsOfDepth() {
    for (int depth = 1; depth <= 6; depth++) {
      CallTraces x = scene(6);
      for (int i = 0; i < depth - 1; i++) {
        put(x, i, 0, o(SELF), o(CALL, i + 1, 0));
      }
      put(x, depth - 1, 0);
      x.call(0, 0, 0, 100);
      due("12: greatest depth, the last without ops", x.trace(0, 4), depth);
      due("12: steps", x.trace(0, 0), 2 * depth - 2);
    }
    CallTraces y = scene(1);
    put(y, 0, 0, o(SELF), o(CALL, 0, 1), o(CALL, 0, 2), o(SELF), o(SELF));
    put(y, 0, 1, o(SELF), o(CALL, 0, 2));
    put(y, 0, 2);
    y.call(0, 0, 0, 100);
    due("12: the greatest, not the last", y.trace(0, 4), 3);
    y.call(0, 2, 0, 100);
    due("12: not that of the call before", y.trace(1, 4), 1);
  }

  /** 13: "What a CALL ended with (0: it FAILED)." */
  private static void resultsOfFailures() {
    CallTraces x = scene(1);
    put(x, 0, 0, o(ARGUMENT), o(RETURN));
    put(x, 0, 1, o(ARGUMENT), o(CALL, 0, 0), o(FAIL, 5));
    long[] arguments = {MIN, MAX, -1};
    for (int i = 0; i < 3; i++) {
      x.call(0, 0, arguments[i], 100);
      x.call(0, 1, arguments[i], 100);
      due("13: result", x.result(2 * i), arguments[i]);
      due("13: it failed", x.result(2 * i + 1), 0);
    }
  }

  /** A walk of 100 steps round and round. */
  private static CallTraces hundred() {
    CallTraces x = scene(1);
    put(x, 0, 0, o(ARGUMENT), o(JUMP, 0));
    x.call(0, 0, 5, 100);
    return x;
  }

  /** 14, 15: the first step and the last of as many as there can be. */
  private static void stepsOfFirstAndLast() {
    CallTraces x = hundred();
    int[] first = {1, 0, 0, 0, ARGUMENT, 1, 0};
    int[] last = {1, 0, 0, 1, JUMP, 1, 0};
    for (int what = 0; what < 7; what++) {
      due("14: the first step, " + what, x.step(0, 0, what), first[what]);
      due("14: the last step, " + what, x.step(0, 99, what), last[what]);
    }
    due("14: behind the last step", x.step(0, 100, 0), UNKNOWN);
    due("15: the first", x.value(0, 0), 5);
    due("15: the last but one", x.value(0, 98), 5);
    due("15: the last", x.value(0, 99), 0);
    due("15: behind the last", x.value(0, 100), UNKNOWN);
  }

  /** 15, 13, 21: values that look like refusals are told as they are. */
  private static void valuesAsRefusals() {
    CallTraces x = scene(1);
    put(x, 0, 0, o(ARGUMENT), o(COPY, 0), o(TELL, -2), o(RETURN));
    for (int i = 0; i < 5; i++) {
      x.call(0, 0, -1 - i, 100);
      due("13: a result below 0", x.result(i), -1 - i);
      due("15: a value below 0", x.value(i, 0), -1 - i);
      due("20: a topic below 0", x.tell(i, 0, 0, 0), -2);
      due("21: a word below 0", x.told(i, 0), -1 - i);
    }
  }

  /** 16: "The first STEP from one on that is of a kind ..; NONE." */
  private static void searchesOfFirstAndLast() {
    CallTraces x = hundred();
    due("16: from the first", x.search(0, ARGUMENT, 0), 0);
    due("16: from behind it", x.search(0, ARGUMENT, 1), 2);
    due("16: itself", x.search(0, ARGUMENT, 98), 98);
    due("16: none behind it", x.search(0, ARGUMENT, 99), NONE);
    due("16: the last", x.search(0, JUMP, 99), 99);
    for (int from : new int[] {100, 101, Integer.MAX_VALUE}) {
      due("16: from " + from, x.search(0, JUMP, from), NONE);
    }
    x.drop();
    put(x, 0, 1);
    x.call(0, 1, 0, 1);
    due("16: no steps", x.search(0, ARGUMENT, 0), NONE);
  }

  /** 16: "(its number may be any)" */
  private static void searchesOfAnyKind() {
    CallTraces x = scene(1);
    put(x, 0, 0, o(PUSH, 1), o(FUNDS, 0));
    x.call(0, 0, 0, 100);
    due("16: the first kind", x.search(0, 0, 0), 0);
    due("16: the last kind", x.search(0, 15, 0), 1);
    for (int kind : beside(16)) {
      due("16: kind " + kind, x.search(0, kind, 0), NONE);
    }
  }

  /** 17: of members that were not walked, have no program, or walked no steps. */
  private static void flamesOfNothing() {
    CallTraces x = scene(6);
    put(x, 0, 0, o(SELF), o(CALL, 5, 3), o(SELF));
    put(x, 5, 3);
    x.call(0, 0, 0, 100);
    for (int i = 0; i < 24; i++) {
      due("17: flame of " + i, x.flame(0, i / 4, i % 4, false), i == 0 ? 3 : 0);
      due("17: flame with of " + i, x.flame(0, i / 4, i % 4, true), i == 0 ? 3 : 0);
    }
  }

  /** 17: the first and the last member, and all there can be spent. */
  private static void flamesOfAll() {
    CallTraces x = scene(6);
    put(x, 0, 0, o(PUSH, 1), o(CALL, 5, 3));
    put(x, 5, 3, o(FUNDS, 0));
    x.price(PUSH, 49);
    x.price(FUNDS, 50);
    x.call(0, 0, 0, 100);
    due("17: the first", x.flame(0, 0, 0, false), 50);
    due("17: the first with", x.flame(0, 0, 0, true), 100);
    due("17: the last", x.flame(0, 5, 3, false), 50);
    due("17: the last with", x.flame(0, 5, 3, true), 50);
    due("17: all prices", x.trace(0, 3), 100);
  }

  /** 17: "(each STEP once)": six frames of one member within one another. */
  private static void flamesOnce() {
    CallTraces x = scene(2);
    put(x, 0, 0, o(ARGUMENT), o(JUMP, 4), o(PUSH, 3), o(RETURN), o(ARGUMENT), o(PUSH, 1), o(MATH, 1), o(CALL, 0, 0), o(RETURN));
    put(x, 1, 0, o(PUSH, 1), o(CALL, 0, 0), o(PUSH, 0), o(CALL, 0, 0), o(SELF));
    x.call(0, 0, 5, 100);
    due("17: within itself six times", x.flame(0, 0, 0, true), x.trace(0, 0));
    due("17: without", x.flame(0, 0, 0, false), x.trace(0, 0));
    x.call(1, 0, 0, 100);
    due("17: beside one another: steps", x.trace(1, 0), 20);
    due("17: beside one another", x.flame(1, 0, 0, true), 15);
    due("17: around them", x.flame(1, 1, 0, false), 5);
    due("17: around them with", x.flame(1, 1, 0, true), 20);
  }

  /** 17: "those in FRAMES within its FRAMES": a member is within one frame of another, and beside a second one. */
  private static void flamesBeside() {
    CallTraces x = scene(1);
    put(x, 0, 0, o(SELF), o(CALL, 0, 1), o(CALL, 0, 2), o(CALL, 0, 1), o(CALL, 0, 2));
    put(x, 0, 1, o(SELF), o(CALL, 0, 2), o(SELF));
    put(x, 0, 2, o(FROM));
    x.price(FROM, 7);
    x.call(0, 0, 0, 100);
    due("17: the inner one within alone", x.flame(0, 0, 1, true), 20);
    due("17: without it", x.flame(0, 0, 1, false), 6);
    due("17: the inner one anywhere", x.flame(0, 0, 2, true), 28);
    due("17: all", x.flame(0, 0, 0, true), 39);
    CallTraces y = scene(1);
    put(y, 0, 0, o(SELF), o(TRY, 0, 1), o(FROM));
    put(y, 0, 1, o(SELF), o(CALL, 0, 2), o(SELF));
    put(y, 0, 2, o(SELF), o(FAIL, 1));
    y.call(0, 0, 0, 100);
    due("17: behind frames that failed", y.flame(0, 0, 1, true), 4);
    due("17: of the one that failed", y.flame(0, 0, 2, true), 2);
  }

  /** 18: none, the first and the last touch. */
  private static void touchesOfFirstAndLast() {
    CallTraces x = scene(6);
    put(x, 5, 3, o(READ, 7), o(READ, 7), o(WRITE, 0), o(WRITE, 7));
    put(x, 5, 2);
    x.call(5, 3, 0, 100);
    x.call(5, 2, 0, 100);
    int[][] due = {{5, 7, 2, 1}, {5, 0, 0, 1}};
    for (int i = 0; i < 8; i++) {
      due("18: touch " + i / 4 + ", " + i % 4, x.touch(0, i / 4, i % 4), due[i / 4][i % 4]);
    }
    due("18: behind the last", x.touch(0, 2, 0), UNKNOWN);
    due("18: none", x.touch(1, 0, 0), UNKNOWN);
  }

  /** 19: the first and the last account, of a call that sends nothing, too. */
  private static void flowsOfFirstAndLast() {
    CallTraces x = scene(6);
    put(x, 0, 0, o(PUSH, 1000), o(SEND, 5));
    put(x, 0, 1);
    x.call(0, 0, 0, 100);
    x.call(0, 1, 0, 100);
    for (int account = 0; account < 6; account++) {
      due("19: sent of " + account, x.flow(0, account, false), account == 0 ? 1000 : 0);
      due("19: got of " + account, x.flow(0, account, true), account == 5 ? 1000 : 0);
      due("19: nothing sent of " + account, x.flow(1, account, false), 0);
      due("19: nothing got of " + account, x.flow(1, account, true), 0);
    }
  }

  /** 20, 21: the first and the last tell of the first and the last account. */
  private static void tellsOfFirstAndLast() {
    CallTraces x = scene(6);
    put(x, 0, 0, o(PUSH, 1), o(TELL, 11), o(SELF), o(CALL, 5, 0), o(PUSH, 4), o(TELL, 14));
    put(x, 5, 0, o(PUSH, 2), o(TELL, 12), o(PUSH, 3), o(TELL, 13));
    x.call(0, 0, 0, 100);
    long[][] due = {{0, 0, 11, 0}, {5, 0, 12, 1}, {5, 1, 13, 2}, {0, 1, 14, 3}};
    for (int i = 0; i < 4; i++) {
      due("20: topic of " + i, x.tell(0, (int) due[i][0], (int) due[i][1], 0), due[i][2]);
      due("20: number of " + i, x.tell(0, (int) due[i][0], (int) due[i][1], 1), due[i][3]);
      due("21: word of " + i, x.told(0, i), i + 1);
    }
    for (int account = 0; account < 6; account++) {
      due("20: none such", x.tell(0, account, account % 5 == 0 ? 2 : 0, 0), UNKNOWN);
    }
    due("21: none such", x.told(0, 4), UNKNOWN);
  }

  /** 22: "DIGEST of THE STATE as it was ahead of STEP k": the first, each one, the last. */
  private static void backsOfFirstAndLast() {
    CallTraces x = new CallTraces();
    x.account();
    put(x, 0, 0, o(ARGUMENT), o(WRITE, 0), o(ARGUMENT), o(WRITE, 7));
    x.call(0, 0, MIN, 100);
    long[] states = {digest(new long[9]), digest(MIN, 0, 0, 0, 0, 0, 0, 0, 0), digest(MIN, 0, 0, 0, 0, 0, 0, MIN, 0)};
    int[] due = {0, 0, 1, 1, 2};
    for (int k = 0; k <= 4; k++) {
      due("22: back(0, " + k + ")", x.back(0, k), states[due[k]]);
    }
    due("22: behind the last", x.back(0, 5), UNKNOWN);
    CallTraces y = hundred();
    due("22: as many as there can be", y.back(0, 100), y.state());
    due("22: one more", y.back(0, 101), UNKNOWN);
  }

  /** 22: "(k as many as STEPS: behind the last one, ahead of what is undone in the end)" */
  private static void backsBehindTheLast() {
    long[][][] failing = {{o(FAIL, 1)}, {o(READ, 8)}, {o(PUSH, 1), o(JUMP, 0)}};
    for (long[][] ops : failing) {
      CallTraces x = scene(1);
      put(x, 0, 0, then(new long[][] {o(PUSH, 6), o(WRITE, 3)}, ops));
      x.call(0, 0, 0, 100);
      due("22: ahead of what is undone", x.back(0, x.trace(0, 0)), digest(0, 0, 0, 6, 0, 0, 0, 0, 1000));
      due("22: what is undone", x.state(), digest(0, 0, 0, 0, 0, 0, 0, 0, 1000));
    }
    CallTraces y = scene(1);
    put(y, 0, 0, o(PUSH, 5), o(WRITE, 0), o(SELF), o(TRY, 0, 1), o(WRITE, 2), o(FAIL, 1));
    put(y, 0, 1, o(PUSH, 6), o(WRITE, 1), o(FAIL, 1));
    y.call(0, 0, 0, 100);
    due("22: ahead of a try's undoing", y.back(0, 6), digest(5, 6, 0, 0, 0, 0, 0, 0, 1000));
    due("22: behind a try's undoing", y.back(0, 7), digest(5, 0, 0, 0, 0, 0, 0, 0, 1000));
    due("22: ahead of what is undone in the end", y.back(0, 9), digest(5, 0, -OWN, 0, 0, 0, 0, 0, 1000));
    due("22: the end", y.state(), digest(0, 0, 0, 0, 0, 0, 0, 0, 1000));
  }

  /** 22: k = 0 is as many as STEPS. */
  private static void backsOfNoSteps() {
    CallTraces x = scene(1);
    put(x, 0, 0);
    x.call(0, 0, 0, 1);
    x.fund(0, 3);
    due("22: no steps", x.back(0, 0), digest(0, 0, 0, 0, 0, 0, 0, 0, 1000));
    due("22: no steps, k 1", x.back(0, 1), UNKNOWN);
  }

  /** 22: "found by walking the CALL anew": nothing that is kept is changed by it. */
  private static void backsLeaveAllAlone() {
    CallTraces x = backed();
    for (int k = 0; k <= 9; k++) {
      x.back(0, k);
      x.back(1, k);
    }
    due("22: all is left alone", Portrait.of(x).equals(Portrait.of(backed())) ? 1 : 0, 1);
  }

  private static CallTraces backed() {
    CallTraces x = scene(2);
    put(x, 0, 0, o(READ, 1), o(PUSH, 1), o(MATH, 0), o(WRITE, 1), o(PUSH, 5), o(SEND, 1), o(PUSH, 8), o(TELL, 3), o(SELF));
    x.call(0, 0, 0, 100);
    x.call(0, 0, 0, 8);
    x.write(0, 2);
    return x;
  }

  /** 24: "The first STEP at which two TRACES are unlike (.. where one has ended: its STEPS); NONE: they are alike." */
  private static void comparesOfEnds() {
    CallTraces x = scene(1);
    put(x, 0, 0, o(SELF), o(SELF), o(ARGUMENT));
    int[][] called = {{0, 100}, {0, 100}, {9, 100}, {0, 2}, {0, 1}, {9, 2}};
    for (int[] call : called) {
      x.call(0, 0, call[0], call[1]);
    }
    int[][] due = {
        {NONE, NONE, 2, 2, 1, 2},
        {NONE, NONE, 2, 2, 1, 2},
        {2, 2, NONE, 2, 1, 2},
        {2, 2, 2, NONE, 1, NONE},
        {1, 1, 1, 1, NONE, 1},
        {2, 2, 2, NONE, 1, NONE}};
    for (int i = 0; i < 36; i++) {
      due("24: compare(" + i / 6 + ", " + i % 6 + ")", x.compare(i / 6, i % 6), due[i / 6][i % 6]);
    }
  }

  /** 24, 25: traces without steps; those of unlike failures and results alone are alike. */
  private static void comparesOfNothing() {
    CallTraces x = scene(1);
    put(x, 0, 0, o(SELF));
    put(x, 0, 1);
    x.price(SELF, 2);
    x.call(0, 0, 0, 1);
    x.call(0, 1, 0, 1);
    x.call(0, 0, 0, 2);
    due("24: no steps, by SPENT or without ops", x.compare(0, 1), NONE);
    due("24: one has ended at once", x.compare(0, 2), 0);
    due("24: the other has ended at once", x.compare(2, 1), 0);
    due("25: no steps", x.halves(0, 1), 0);
    due("25: one has none", x.halves(0, 2), 0);
    due("25: the other has none", x.halves(2, 0), 0);
    due("25: one step", x.halves(2, 2), 1);
  }

  /** 25: "of low = 0 and high = the lesser number of STEPS the middle one m = (low + high + 1) / 2 .." */
  private static void halvesByHalves() {
    int[] alike = {0, 1, 2, 2, 3, 3, 3, 3};
    for (int steps = 0; steps < 8; steps++) {
      CallTraces x = scene(1);
      put(x, 0, 0, pushes(steps));
      x.call(0, 0, 0, 100);
      x.call(0, 0, 0, 100);
      due("25: alike, steps " + steps, x.halves(0, 1), alike[steps]);
    }
    // Eight steps, unlike from step u on: 4, 2, 1 where u is 0, or 1; 4, 2, 3 (2, 3); 4, 6, 5 (4, 5); 4, 6, 7 (6);
    // 4, 6, 7, 8 (7, and where none is unlike).
    int[] unlike = {3, 3, 3, 3, 3, 3, 3, 4, 4};
    for (int u = 0; u <= 8; u++) {
      CallTraces y = unlikeFrom(u);
      due("25: unlike from step " + u, y.halves(0, 1), unlike[u]);
      due("25: the other way", y.halves(1, 0), unlike[u]);
      due("24: unlike from step " + u, y.compare(0, 1), u == 8 ? NONE : u);
    }
  }

  /** Two traces of eight steps, with arguments that are read from step u on. */
  private static CallTraces unlikeFrom(int u) {
    CallTraces x = scene(1);
    put(x, 0, 0, pushes(u));
    for (int i = u; i < 8; i++) {
      x.op(0, ARGUMENT, 0, 0);
    }
    x.call(0, 0, 1, 100);
    x.call(0, 0, 2, 100);
    return x;
  }

  /** 25: of as many steps as there can be, and of fewer on one side. */
  private static void halvesOfHundred() {
    CallTraces x = hundred();
    x.call(0, 0, 5, 100);
    x.call(0, 0, 6, 100);
    x.call(0, 0, 5, 99);
    x.call(0, 0, 0, 100);
    due("25: a hundred alike: 50, 75, 88, 94, 97, 99, 100", x.halves(0, 1), 7);
    due("25: a hundred unlike: 50, 25, 12, 6, 3, 1", x.halves(0, 2), 6);
    due("25: ninety-nine alike: 50, 75, 87, 93, 96, 98, 99", x.halves(0, 3), 7);
    due("25: ninety-nine, the other way", x.halves(3, 0), 7);
    due("25: two, unlike at once: 1", x.halves(0, 4), 1);
  }

  private static void wrote(CallTraces x, int trace, int k, String want) {
    int length = x.write(trace, k);
    due("26: length of " + want, length, want.length());
    dueText("26: OUT", outOf(x, length), want);
    due("27: behind OUT", x.out(length), NONE);
  }

  /** 26: the shortest and the longest there is, one behind the other. */
  private static void writesOfShortestAndLongest() {
    CallTraces x = scene(6);
    for (int i = 0; i < 5; i++) {
      put(x, i, 3, o(SELF), o(CALL, i + 1, 3));
    }
    put(x, 5, 3, then(then(new long[][] {o(PUSH, MIN)}, idle(9)), o(COPY, 0)));
    put(x, 0, 0, o(PUSH, 1));
    x.call(0, 3, 0, 100);
    x.call(0, 0, 0, 100);
    wrote(x, 0, x.trace(0, 0) - 1, "6 5.3:19 12 -9223372036854775808");
    wrote(x, 1, 0, "1 0.0:0 0 1");
    wrote(x, 0, 1, "1 0.3:1 6 0");
    wrote(x, 0, 10, "6 5.3:0 0 -9223372036854775808");
  }

  /** 26: "all in decimals, - ahead of those below 0" */
  private static void writesOfValues() {
    long[] values = {0, 1, -1, 9, -9, 10, -10, 99, -100, 1000, MAX, -MAX, MIN, MIN + 1, 1L << 32, -(1L << 32)};
    for (long it : values) {
      CallTraces x = scene(1);
      put(x, 0, 0, o(PUSH, it));
      x.call(0, 0, 0, 100);
      wrote(x, 0, 0, "1 0.0:0 0 " + it);
    }
  }

  /** 26: "and, if it FAILED, "!" and the FAILURE": each that a step can have. */
  private static void writesOfFailures() {
    CallTraces x = scene(2);
    put(x, 0, 0, o(PUSH, 9), o(SEND, 4));
    put(x, 0, 1, o(READ, -1));
    put(x, 0, 2, o(SELF), o(SELF), o(MATH, 3));
    put(x, 0, 3, o(PUSH, -1), o(SEND, 0));
    put(x, 1, 0, o(FAIL, 99));
    put(x, 1, 1, o(SELF), o(CALL, 1, 1));
    for (int i = 0; i < 6; i++) {
      x.call(i / 4, i % 4, 0, 100);
    }
    wrote(x, 0, 1, "1 0.0:1 5 0!1");
    wrote(x, 1, 0, "1 0.1:0 1 0!2");
    wrote(x, 2, 2, "1 0.2:2 3 0!3");
    wrote(x, 3, 1, "1 0.3:1 5 0!4");
    wrote(x, 4, 0, "1 1.0:0 11 0!5");
    wrote(x, 5, 11, "6 1.1:1 6 0!7");
    wrote(x, 5, 9, "5 1.1:1 6 1");
  }

  /** 27: "Byte i of OUT; NONE." */
  private static void outsOfFirstAndLast() {
    CallTraces x = scene(1);
    put(x, 0, 0, o(PUSH, MIN), o(PUSH, 7));
    x.call(0, 0, 0, 100);
    due("27: nothing is written yet", x.out(0), NONE);
    x.write(0, 0);
    due("27: the first of a long one", x.out(0), '1');
    due("27: the last of a long one", x.out(29), '8');
    due("27: behind the last of a long one", x.out(30), NONE);
    x.write(0, 1);
    due("27: the last of a short one", x.out(10), '7');
    due("27: behind the last of a short one: not what was there", x.out(11), NONE);
    for (int i : beside(11)) {
      due("27: byte " + i, x.out(i), NONE);
    }
  }

  /** 27: OUT stays till the next write that is not refused. */
  private static void outsWithoutWrites() {
    CallTraces x = scene(1);
    put(x, 0, 0, o(PUSH, 7));
    x.call(0, 0, 0, 100);
    x.write(0, 0);
    x.write(0, 1);
    dueText("27: behind a refused one", outOf(x, 11), "1 0.0:0 0 7");
    x.drop();
    dueText("27: behind a drop", outOf(x, 11), "1 0.0:0 0 7");
    x.call(0, 0, 0, 100);
    dueText("27: behind a call", outOf(x, 11), "1 0.0:0 0 7");
  }

  /** 28: "0 PROGRAMS, 1 ACCOUNTS, 2 TRACES that are kept, 3 CALLS ever." */
  private static void countsOfFirstAndLast() {
    CallTraces x = new CallTraces();
    for (int i = 0; i < 8; i++) {
      x.program();
      due("28: programs", x.count(0), i + 1);
    }
    x.program();
    due("28: programs, no more", x.count(0), 8);
    for (int i = 0; i < 6; i++) {
      x.account();
      due("28: accounts", x.count(1), i + 1);
    }
    x.account();
    due("28: accounts, no more", x.count(1), 6);
    x.member(5, 3, 7);
    for (int i = 0; i < 8; i++) {
      x.call(5, 3, 0, 1);
      due("28: traces", x.count(2), i + 1);
      due("28: calls", x.count(3), i + 1);
    }
    x.call(5, 3, 0, 1);
    due("28: traces, no more", x.count(2), 8);
    due("28: calls, no more", x.count(3), 8);
    x.drop();
    due("28: traces behind a drop", x.count(2), 0);
    due("28: calls behind a drop", x.count(3), 8);
  }
}
