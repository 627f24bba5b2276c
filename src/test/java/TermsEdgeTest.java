/** The Terms up to the FAILURES: each sentence that names an edge has a method of its own, which quotes it. */
public final class TermsEdgeTest extends Checks {
  private static final int[] PUSHERS = {PUSH, READ, ARGUMENT, COPY, SELF, FROM, FUNDS};
  private static final int[] POPPERS = {WRITE, JUMP, SEND, CALL, TRY, TELL, RETURN};

  public static void main(String[] args) {
    eightPrograms();
    twentyOps();
    opsOfAllPrograms();
    sixAccounts();
    cellsAndBalancesAtFirst();
    cellsAreLongs();
    membersAtFirst();
    fourMembers();
    pricesAtFirst();
    longsWrap();
    twelveOnTheStack();
    noThirteenth();
    roomOnTheStackAgain();
    stackEmptyAtFirst();
    stackEmptyAtFirstWithin();
    endsBehindTheLastOp();
    pushesAnyLong();
    readsAndWritesOfCells();
    mathsZeroToFour();
    mathsOrder();
    jumpsOfNotZero();
    jumpsToOps();
    jumpsThatDoNotLook();
    sendsOfBalances();
    sendsToAccounts();
    callsOfAccounts();
    callsOfMembers();
    callsOfNone();
    framesWithoutOps();
    triesPushFailures();
    argumentsAreLongs();
    tellsOfAnyLong();
    returnsEndFrames();
    failsWithAnyNumber();
    copiesFromBelow();
    selvesAndCallers();
    fundsOfAccounts();
    notNamedNotLookedAt();
    nothingToBePopped();
    zeroOfMathAlone();
    sixFrames();
    popsAheadOfLooks();
    nothingAheadOfDeep();
    nothingAheadOfLack();
    triesDoNotCatchSpent();
    triesDoNotCatchTheirOwn();
    end();
  }

  /** "PROGRAMS 0 .. 7, as they come" */
  private static void eightPrograms() {
    CallTraces x = scene(1);
    for (int i = 0; i < 8; i++) {
      due("programs: program " + i, x.program(), i);
    }
    due("programs: a ninth", x.program(), FULL);
    due("programs: the last has an op", x.op(7, PUSH, 70, 0), 1);
    due("programs: the last has two", x.op(7, RETURN, 0, 0), 2);
    x.member(0, 0, 7);
    x.member(0, 3, 0);
    x.call(0, 0, 0, 100);
    x.call(0, 3, 0, 100);
    due("programs: the last is walked", x.result(0), 70);
    due("programs: the first is still empty", x.trace(1, 0), 0);
  }

  /** "have OPS, 20 at most, numbered as they come" */
  private static void twentyOps() {
    CallTraces x = scene(1);
    int program = put(x, 0, 0, idle(9));
    due("ops: the 19th", x.op(program, PUSH, 8, 0), 19);
    due("ops: the 20th", x.op(program, RETURN, 0, 0), 20);
    due("ops: a 21st", x.op(program, FAIL, 0, 0), FULL);
    x.call(0, 0, 0, 100);
    due("ops: steps", x.trace(0, 0), 20);
    for (int k = 0; k < 20; k++) {
      due("ops: number of step " + k, x.step(0, k, 3), k);
    }
    due("ops: the last is walked", x.result(0), 8);
  }

  /** "have OPS, 20 at most": all programs full at once, and each has its own. */
  private static void opsOfAllPrograms() {
    CallTraces x = scene(2);
    for (int i = 0; i < 8; i++) {
      due("all ops: size", x.op(put(x, i / 4, i % 4, then(idle(9), o(PUSH, 50 + i))), RETURN, 0, 0), 20);
    }
    for (int i = 0; i < 8; i++) {
      due("all ops: full", x.op(i, PUSH, 0, 0), FULL);
    }
    for (int i = 0; i < 8; i++) {
      due("all ops: call", x.call(i / 4, i % 4, 0, 100), i);
      due("all ops: result", x.result(i), 50 + i);
    }
  }

  /** "ACCOUNTS 0 .. 5, as they come" */
  private static void sixAccounts() {
    CallTraces x = new CallTraces();
    for (int i = 0; i < 6; i++) {
      due("accounts: account " + i, x.account(), i);
      due("accounts: balance behind the last", x.balance(i + 1), UNKNOWN);
    }
    due("accounts: a seventh", x.account(), FULL);
    put(x, 5, 0, o(SELF), o(WRITE, 7), o(SELF), o(RETURN));
    x.call(5, 0, 0, 100);
    due("accounts: the last is walked", x.result(0), 5);
    due("accounts: the last's cell", x.cell(5, 7), 5);
  }

  /** "have CELLS 0 .. 7 and a BALANCE (longs, 0 at first)" */
  private static void cellsAndBalancesAtFirst() {
    CallTraces x = new CallTraces();
    for (int account = 0; account < 6; account++) {
      x.account();
      due("at first: balance of " + account, x.balance(account), 0);
      for (int cell = 0; cell < 8; cell++) {
        due("at first: cell " + cell + " of " + account, x.cell(account, cell), 0);
      }
    }
    due("at first: state", x.state(), digest(new long[54]));
  }

  /** "CELLS 0 .. 7 and a BALANCE (longs ..)": whole longs, the first and the last cell, and none beside them. */
  private static void cellsAreLongs() {
    long[] longs = {MIN, MAX, -1, 1L << 32, 0};
    CallTraces x = scene(6);
    for (int account : new int[] {0, 1, 5}) {
      put(x, account, 0, o(ARGUMENT), o(WRITE, 0));
      put(x, account, 1, o(ARGUMENT), o(WRITE, 7));
    }
    long[] row = new long[54];
    for (int i = 0; i < 6; i++) {
      row[i * 9 + 8] = 1000;
    }
    for (int account : new int[] {0, 1, 5}) {
      for (long it : longs) {
        for (int member = 0; member < 2; member++) {
          x.call(account, member, it, 100);
          row[account * 9 + member * 7] = it;
          due("longs: cell " + member * 7 + " of " + account, x.cell(account, member * 7), it);
          due("longs: no other is written", x.state(), digest(row));
        }
        x.drop();
      }
    }
  }

  /** "MEMBERS 0 .. 3, each a PROGRAM, or none (at first)" */
  private static void membersAtFirst() {
    CallTraces x = scene(6);
    x.program();
    for (int i = 0; i < 24; i++) {
      due("members at first: " + i / 4 + "." + i % 4, x.call(i / 4, i % 4, 0, 1), STATE);
    }
  }

  /** "MEMBERS 0 .. 3, each a PROGRAM": all of them, and each its own. */
  private static void fourMembers() {
    CallTraces x = scene(6);
    for (int program = 0; program < 8; program++) {
      x.program();
      x.op(program, PUSH, 90 + program, 0);
      x.op(program, RETURN, 0, 0);
    }
    for (int i = 0; i < 24; i++) {
      due("members: set " + i, x.member(i / 4, i % 4, i % 8), 1);
    }
    for (int i = 0; i < 24; i++) {
      due("members: call " + i, x.call(i / 4, i % 4, 0, 2), i % 8);
      due("members: result " + i, x.result(i % 8), 90 + i % 8);
      if (i % 8 == 7) {
        x.drop();
      }
    }
  }

  /** "PRICES of kinds are 1 at first." */
  private static void pricesAtFirst() {
    CallTraces x = new CallTraces();
    for (int kind = 0; kind < 16; kind++) {
      due("prices at first: kind " + kind, x.price(kind, 50), 1);
    }
  }

  private static void reckons(String what, long x, long y, int a, long want) {
    ends(what, 0, want, o(PUSH, x), o(PUSH, y), o(MATH, a), o(RETURN));
  }

  /** "Longs wrap." */
  private static void longsWrap() {
    reckons("wrap: the greatest and 1", MAX, 1, 0, MIN);
    reckons("wrap: the least and -1", MIN, -1, 0, MAX);
    reckons("wrap: the least twice", MIN, MIN, 0, 0);
    reckons("wrap: the least less 1", MIN, 1, 1, MAX);
    reckons("wrap: the greatest less -1", MAX, -1, 1, MIN);
    reckons("wrap: 0 less the least", 0, MIN, 1, MIN);
    reckons("wrap: 2^32 by 2^32", 1L << 32, 1L << 32, 2, 0);
    reckons("wrap: the greatest by itself", MAX, MAX, 2, 1);
    reckons("wrap: the least by -1", MIN, -1, 2, MIN);
    reckons("wrap: the least divided by -1", MIN, -1, 3, MIN);
    reckons("wrap: the rest of that", MIN, -1, 4, 0);
    reckons("no wrap: the greatest divided by -1", MAX, -1, 3, -MAX);
    reckons("no wrap: the rest of the least by the greatest", MIN, MAX, 4, -1);
  }

  /** "a STACK of 12 longs at most": the 12th, by each kind that pushes. */
  private static void twelveOnTheStack() {
    for (int kind : PUSHERS) {
      CallTraces x = ends("a 12th by " + kind, 0, 0, then(pushes(11), o(kind, 0)));
      due("a 12th by " + kind + ": steps", x.trace(0, 0), 12);
      due("a 12th by " + kind + ": touches", x.trace(0, 6), kind == READ ? 1 : 0);
    }
  }

  /** "a 13th on the STACK": INDEX, by each kind that pushes. */
  private static void noThirteenth() {
    for (int kind : PUSHERS) {
      CallTraces x = ends("a 13th by " + kind, INDEX, 0, then(pushes(12), o(kind, 0), o(RETURN)));
      due("a 13th by " + kind + ": steps", x.trace(0, 0), 13);
      due("a 13th by " + kind + ": the 12th", x.value(0, 11), 111);
    }
  }

  /** "a STACK of 12 longs at most": what pops first finds room on a full one. */
  private static void roomOnTheStackAgain() {
    ends("full: math", 0, 221, then(pushes(12), o(MATH, 0), o(RETURN)));
    ends("full: math, then a 12th", 0, 77, then(pushes(12), o(MATH, 0), o(ARGUMENT), o(RETURN)));
    ends("full: math, then a 13th", INDEX, 0, then(pushes(12), o(MATH, 0), o(ARGUMENT), o(ARGUMENT)));
    ends("full: write, then read", 0, 111, then(pushes(12), o(WRITE, 0), o(READ, 0), o(RETURN)));
    for (int kind = CALL; kind <= TRY; kind++) {
      CallTraces x = scene(1);
      put(x, 0, 0, then(pushes(12), o(kind, 0, 1), o(RETURN)));
      put(x, 0, 1, then(pushes(12), o(RETURN)));
      x.call(0, 0, 0, 100);
      due("full: what a frame ended with", x.result(0), 111);
      due("full: failure", x.trace(0, 1), 0);
    }
    CallTraces y = scene(1);
    put(y, 0, 0, then(pushes(12), o(TRY, 0, 1), o(RETURN)));
    put(y, 0, 1, pushes(13));
    y.call(0, 0, 0, 100);
    due("full: what a frame failed with", y.result(0), -INDEX);
  }

  /** "a STACK .. (empty at first)": of each call, whatever the one before left. */
  private static void stackEmptyAtFirst() {
    CallTraces x = scene(1);
    put(x, 0, 0, pushes(5));
    put(x, 0, 1, o(RETURN));
    put(x, 0, 2, pushes(12));
    x.call(0, 0, 0, 100);
    x.call(0, 1, 0, 100);
    x.call(0, 2, 0, 100);
    due("empty at first: nothing to return", x.trace(1, 1), INDEX);
    due("empty at first: room for 12", x.trace(2, 1), 0);
  }

  /** "a STACK .. (empty at first)": of a frame within, whatever stands around it or stood there before. */
  private static void stackEmptyAtFirstWithin() {
    CallTraces x = scene(1);
    put(x, 0, 0, o(SELF), o(PUSH, 44), o(CALL, 0, 1), o(TRY, 0, 2), o(RETURN));
    put(x, 0, 1, pushes(5));
    put(x, 0, 2, o(RETURN));
    x.call(0, 0, 0, 100);
    due("empty within: nothing to return", x.result(0), -INDEX);
    due("empty within: its stack is not that of the one around", x.step(0, 9, 6), INDEX);
    CallTraces y = scene(1);
    put(y, 0, 0, o(SELF), o(PUSH, 44), o(PUSH, 45), o(CALL, 0, 1), o(MATH, 0), o(RETURN));
    put(y, 0, 1, then(pushes(12), o(RETURN)));
    y.call(0, 0, 0, 100);
    due("empty within: the one around is left alone", y.result(0), 155);
  }

  /** "behind the last one it ends with 0" */
  private static void endsBehindTheLastOp() {
    ends("behind the last: no ops", 0, 0);
    ends("behind the last: a full stack", 0, 0, pushes(12));
    ends("behind the last: a jump that does not", 0, 0, o(PUSH, 5), o(PUSH, 0), o(JUMP, 0));
    CallTraces x = scene(1);
    put(x, 0, 0, o(PUSH, 5), o(CALL, 0, 1), o(RETURN));
    put(x, 0, 1, o(ARGUMENT));
    x.call(0, 0, 0, 100);
    due("behind the last: of a frame within", x.result(0), 0);
    due("behind the last: what it pushed", x.value(0, 3), 0);
  }

  /** "0 PUSH a" */
  private static void pushesAnyLong() {
    for (long a : new long[] {MIN, MAX, 0, -1, 1L << 32}) {
      CallTraces x = ends("push " + a, 0, a, o(PUSH, a), o(RETURN));
      due("push " + a + ": value", x.value(0, 0), a);
    }
  }

  /** "1, 2: no such CELL" */
  private static void readsAndWritesOfCells() {
    for (int cell : new int[] {0, 7}) {
      ends("cell " + cell, 0, 9, o(PUSH, 9), o(WRITE, cell), o(READ, cell), o(RETURN));
      CallTraces x = ends("cell " + cell + " at first", 0, 0, o(READ, cell), o(RETURN));
      due("cell " + cell + ": touched", x.touch(0, 0, 1), cell);
    }
    for (long a : besideAsLongs(8)) {
      CallTraces x = ends("no cell to read: " + a, INDEX, 0, o(READ, a));
      due("no cell to read: touches", x.trace(0, 6), 0);
      CallTraces y = ends("no cell to write: " + a, INDEX, 0, o(PUSH, 9), o(WRITE, a));
      due("no cell to write: touches", y.trace(0, 6), 0);
      due("no cell to write: state", y.back(0, 2), digest(0, 0, 0, 0, 0, 0, 0, 0, 1000, 0, 0, 0, 0, 0, 0, 0, 0, 1000));
    }
  }

  /** "3 MATH a: .. x + y (a = 0), x - y (1), x y (2), x / y (3), the rest of that (4)"; "3: no such a" */
  private static void mathsZeroToFour() {
    long[] due = {-17 + 5, -17 - 5, -17 * 5, -3, -2};
    for (int a = 0; a < 5; a++) {
      reckons("math " + a, -17, 5, a, due[a]);
    }
    reckons("math: division by what is below 0", 17, -5, 3, -3);
    reckons("math: the rest of that", 17, -5, 4, 2);
    reckons("math: y by itself", 1, 1, 3, 1);
    reckons("math: below 1", 4, 5, 3, 0);
    for (long a : besideAsLongs(5)) {
      ends("no such math: " + a, INDEX, 0, o(PUSH, 1), o(PUSH, 1), o(MATH, a));
    }
  }

  /** "3: pops, no such a, ZERO"; "(y ahead of x)" */
  private static void mathsOrder() {
    for (long a : besideAsLongs(5)) {
      ends("math: no such a ahead of ZERO", INDEX, 0, o(PUSH, 1), o(PUSH, 0), o(MATH, a));
    }
    for (int a = 0; a < 5; a++) {
      ends("math: nothing to be popped", INDEX, 0, o(MATH, a));
      ends("math: y but no x, ahead of ZERO", INDEX, 0, o(PUSH, 0), o(MATH, a));
    }
  }

  /** "ZERO (3)": of division and its rest alone, by y alone. */
  private static void zeroOfMathAlone() {
    reckons("zero: plus 0", 5, 0, 0, 5);
    reckons("zero: less 0", 5, 0, 1, 5);
    reckons("zero: times 0", 5, 0, 2, 0);
    for (long x : new long[] {5, 0, MIN}) {
      ends("zero: division", ZERO, 0, o(PUSH, x), o(PUSH, 0), o(MATH, 3));
      ends("zero: rest", ZERO, 0, o(PUSH, x), o(PUSH, 0), o(MATH, 4));
    }
    reckons("zero: 0 divided", 0, 5, 3, 0);
    reckons("zero: the rest of 0", 0, 5, 4, 0);
    reckons("zero: by a long whose low half is 0", 1L << 33, 1L << 32, 3, 2);
    reckons("zero: the rest by it", (1L << 32) + 5, 1L << 32, 4, 5);
  }

  /** "4 JUMP: if what is popped is not 0, OP a is next." */
  private static void jumpsOfNotZero() {
    for (long it : new long[] {1, -1, MIN, MAX, 1L << 32}) {
      ends("jump of " + it, 0, 0, o(PUSH, it), o(JUMP, 3), o(FAIL, 1), o(SELF));
    }
    ends("jump of 0", OWN, 0, o(PUSH, 0), o(JUMP, 3), o(FAIL, 1), o(SELF));
  }

  /** "4: there is no such OP": the first and the last there is, and those beside them. */
  private static void jumpsToOps() {
    CallTraces x = scene(1);
    put(x, 0, 0, o(READ, 0), o(JUMP, 19), o(PUSH, 1), o(WRITE, 0), o(PUSH, 1), o(JUMP, 0));
    for (int i = 6; i < 19; i++) {
      x.op(0, FAIL, i, 0);
    }
    x.op(0, READ, 0, 0);
    x.call(0, 0, 0, 100);
    due("jumps: to the first op and the last", x.trace(0, 1), 0);
    due("jumps: the first again", x.step(0, 6, 3), 0);
    due("jumps: the last", x.step(0, 8, 3), 19);
    due("jumps: steps", x.trace(0, 0), 9);
    for (long a : besideAsLongs(3)) {
      ends("no op to jump to: " + a, INDEX, 0, o(PUSH, 1), o(JUMP, a), o(SELF));
    }
    ends("no op to jump to: one that another program has", INDEX, 0, o(PUSH, 1), o(JUMP, 19));
    ends("jump to itself", INDEX, 0, o(PUSH, 1), o(JUMP, 1));
  }

  /** "a JUMP only at what is not 0" */
  private static void jumpsThatDoNotLook() {
    for (long a : besideAsLongs(2)) {
      CallTraces x = ends("0 does not look: " + a, 0, 0, o(PUSH, 0), o(JUMP, a));
      due("0 does not look: its failure", x.step(0, 1, 6), 0);
    }
  }

  /** "4 LACK (5: below 0, or above the BALANCE)" */
  private static void sendsOfBalances() {
    for (long n : new long[] {0, 1, 999, 1000}) {
      CallTraces x = ends("send " + n, 0, 0, o(PUSH, n), o(SEND, 1));
      due("send " + n + ": from", x.balance(0), 1000 - n);
      due("send " + n + ": to", x.balance(1), 1000 + n);
    }
    for (long n : new long[] {-1, 1001, MIN, MAX, (1L << 32) + 5, -(1L << 32)}) {
      CallTraces x = ends("send " + n, LACK, 0, o(PUSH, n), o(SEND, 1));
      due("send " + n + ": from", x.balance(0), 1000);
      due("send " + n + ": nothing is moved", x.back(0, 2), x.back(0, 0));
      ends("send " + n + " to itself", LACK, 0, o(PUSH, n), o(SEND, 0));
    }
    ends("send: the balance has shrunk", LACK, 0, o(PUSH, 1000), o(SEND, 1), o(PUSH, 1), o(SEND, 1));
    ends("send: it has shrunk, but not by what went to itself", 0, 0, o(PUSH, 1000), o(SEND, 0), o(PUSH, 1000), o(SEND, 1));
    CallTraces y = new CallTraces();
    y.account();
    put(y, 0, 0, o(ARGUMENT), o(SEND, 0));
    y.call(0, 0, 0, 100);
    y.call(0, 0, 1, 100);
    due("send: 0 of an empty balance", y.trace(0, 1), 0);
    due("send: 1 of an empty balance", y.trace(1, 1), LACK);
    y.fund(0, 1000000000L);
    y.call(0, 0, 1000000000L, 100);
    y.call(0, 0, 1000000001L, 100);
    due("send: all of a full balance", y.trace(2, 1), 0);
    due("send: one more than all", y.trace(3, 1), LACK);
  }

  /** "5 .. there is no such ACCOUNT" */
  private static void sendsToAccounts() {
    CallTraces x = scene(6);
    put(x, 2, 0, o(PUSH, 1), o(SEND, 0), o(PUSH, 2), o(SEND, 5));
    x.call(2, 0, 0, 100);
    due("send: to the first", x.balance(0), 1001);
    due("send: to the last", x.balance(5), 1002);
    for (long a : besideAsLongs(2)) {
      ends("send to none: " + a, NOTHING, 0, o(PUSH, 1), o(SEND, a));
    }
    CallTraces y = scene(6);
    put(y, 0, 0, o(PUSH, 1), o(SEND, 6));
    y.call(0, 0, 0, 100);
    due("send: behind the last of six", y.trace(0, 1), NOTHING);
  }

  /** "6, 7 .. there is no such ACCOUNT": the first and the last there is, and those beside them. */
  private static void callsOfAccounts() {
    for (int kind = CALL; kind <= TRY; kind++) {
      CallTraces x = scene(6);
      put(x, 2, 0, o(PUSH, 1), o(kind, 0, 0), o(kind, 5, 0), o(RETURN));
      put(x, 0, 0, o(ARGUMENT), o(PUSH, 10), o(MATH, 2), o(SELF), o(MATH, 0), o(RETURN));
      x.member(5, 0, 1);
      x.call(2, 0, 0, 100);
      due("calls: of the first and the last account", x.result(0), 105);
      for (long a : besideAsLongs(2)) {
        CallTraces y = ends("call of no account: " + a, NOTHING, 0, o(PUSH, 6), o(kind, a, 0), o(SELF));
        due("call of no account: steps", y.trace(0, 0), 2);
        due("call of no account: depth", y.trace(0, 4), 1);
      }
      CallTraces z = scene(6);
      put(z, 5, 3, o(PUSH, 1), o(kind, 6, 0));
      z.call(5, 3, 0, 100);
      due("call behind the last of six", z.trace(0, 1), NOTHING);
    }
  }

  /** "6, 7: no such MEMBER": the first and the last there is, and those beside them. */
  private static void callsOfMembers() {
    for (int kind = CALL; kind <= TRY; kind++) {
      CallTraces x = scene(3);
      put(x, 1, 1, o(PUSH, 1), o(kind, 1, 0), o(kind, 1, 3), o(RETURN));
      put(x, 1, 0, o(ARGUMENT), o(PUSH, 6), o(MATH, 0), o(RETURN));
      put(x, 1, 3, o(ARGUMENT), o(PUSH, 5), o(MATH, 2), o(RETURN));
      x.member(0, 3, 1);
      x.member(2, 0, 1);
      x.call(1, 1, 0, 100);
      due("calls: of the first and the last member", x.result(0), 35);
      x.drop();
      int program = put(x, 1, 2);
      for (int member : beside(4)) {
        x.op(program, PUSH, 1, 0);
        x.op(program, kind, 1, member);
        x.call(1, 2, 0, 100);
        due("call of no member: " + member, x.trace(0, 1), NOTHING);
        x.drop();
        program = put(x, 1, 2);
      }
    }
  }

  /** "or it has no PROGRAM": at first, and once it was taken away. */
  private static void callsOfNone() {
    for (int kind = CALL; kind <= TRY; kind++) {
      CallTraces x = scene(2);
      put(x, 0, 0, o(PUSH, 1), o(kind, 1, 2), o(RETURN));
      x.call(0, 0, 0, 100);
      due("no program: at first", x.trace(0, 1), NOTHING);
      x.drop();
      put(x, 1, 2, o(PUSH, 4), o(RETURN));
      x.call(0, 0, 0, 100);
      due("no program: there is one", x.result(0), 4);
      x.drop();
      x.member(1, 2, -1);
      x.call(0, 0, 0, 100);
      due("no program: taken away", x.trace(0, 1), NOTHING);
    }
  }

  /** A program without ops is one: it is walked, and ends with 0. */
  private static void framesWithoutOps() {
    for (int kind = CALL; kind <= TRY; kind++) {
      CallTraces x = scene(1);
      put(x, 0, 0, o(PUSH, 9), o(kind, 0, 1), o(RETURN));
      put(x, 0, 1);
      x.call(0, 0, 0, 100);
      due("no ops: result", x.result(0), 0);
      due("no ops: failure", x.trace(0, 1), 0);
      due("no ops: steps", x.trace(0, 0), 3);
    }
  }

  /** "push the FAILURE less the sign (-1 ..)": each that can be caught. */
  private static void triesPushFailures() {
    long[][][] failing = {
        {o(SELF), o(CALL, 0, 2)},
        {o(READ, 8)},
        {o(SELF), o(SELF), o(MATH, 3)},
        {o(PUSH, -1), o(SEND, 0)},
        {o(FAIL, 99)}};
    for (int i = 0; i < failing.length; i++) {
      CallTraces x = scene(1);
      put(x, 0, 0, o(SELF), o(TRY, 0, 1), o(RETURN));
      put(x, 0, 1, failing[i]);
      x.call(0, 0, 0, 100);
      due("try: failure " + (i + 1), x.result(0), -1 - i);
      due("try: the call did not fail", x.trace(0, 1), 0);
      due("try: no number is left", x.trace(0, 2), 0);
    }
    CallTraces y = scene(1);
    put(y, 0, 0, o(SELF), o(TRY, 0, 0), o(RETURN));
    y.call(0, 0, 0, 100);
    due("try: DEEP", y.result(0), -DEEP);
  }

  /** "8 ARGUMENT: push it." */
  private static void argumentsAreLongs() {
    CallTraces x = scene(1);
    put(x, 0, 0, o(ARGUMENT), o(RETURN));
    put(x, 0, 1, o(ARGUMENT), o(CALL, 0, 0), o(RETURN));
    long[] arguments = {MIN, MAX, 0, -1};
    for (int i = 0; i < 4; i++) {
      x.call(0, 0, arguments[i], 100);
      x.call(0, 1, arguments[i], 100);
      due("argument from outside", x.result(2 * i), arguments[i]);
      due("argument from within", x.result(2 * i + 1), arguments[i]);
    }
  }

  /** "9 TELL: what is popped, with topic a." */
  private static void tellsOfAnyLong() {
    CallTraces x = ends("tell", 0, 0, o(PUSH, MIN), o(TELL, MAX), o(PUSH, MAX), o(TELL, MIN), o(PUSH, 0), o(TELL, -1));
    long[] words = {MIN, MAX, 0};
    long[] topics = {MAX, MIN, -1};
    for (int i = 0; i < 3; i++) {
      due("tell: topic", x.tell(0, 0, i, 0), topics[i]);
      due("tell: word", x.told(0, i), words[i]);
    }
  }

  /** "10 RETURN: the FRAME ends with what is popped." */
  private static void returnsEndFrames() {
    for (long it : new long[] {MIN, MAX, 0}) {
      CallTraces x = ends("return " + it, 0, it, o(PUSH, 3), o(PUSH, it), o(RETURN), o(FAIL, 1));
      due("return: steps", x.trace(0, 0), 3);
    }
    CallTraces y = scene(1);
    put(y, 0, 0, o(PUSH, 1), o(CALL, 0, 1), o(PUSH, 2), o(MATH, 0), o(RETURN));
    put(y, 0, 1, o(PUSH, 40), o(RETURN), o(FAIL, 1));
    y.call(0, 0, 0, 100);
    due("return: the frame around goes on", y.result(0), 42);
  }

  /** "11 FAIL with the number a"; "the lowest 32 bits" */
  private static void failsWithAnyNumber() {
    long[] numbers = {0, 1, -1, Integer.MAX_VALUE, 1L << 31, 1L << 32, (1L << 32) - 1, MIN, MAX, (7L << 32) + 9};
    int[] due = {0, 1, -1, Integer.MAX_VALUE, Integer.MIN_VALUE, 0, -1, 0, -1, 9};
    for (int i = 0; i < numbers.length; i++) {
      CallTraces x = ends("fail with " + numbers[i], OWN, 0, o(FAIL, numbers[i]), o(SELF));
      due("fail with " + numbers[i] + ": number", x.trace(0, 2), due[i]);
    }
    ends("fail with what is on the stack left alone", OWN, 0, then(pushes(12), o(FAIL, 1)));
  }

  /** "12 COPY: push what stands a below the top (0: the top)"; "12: a below 0, or not so many" */
  private static void copiesFromBelow() {
    for (int a = 0; a < 11; a++) {
      ends("copy of " + a, 0, 110 - a, then(pushes(11), o(COPY, a), o(RETURN)));
    }
    for (long a : besideAsLongs(11)) {
      ends("copy of " + a, INDEX, 0, then(pushes(11), o(COPY, a)));
    }
    for (int height = 1; height < 4; height++) {
      ends("copy: the lowest of " + height, 0, 100, then(pushes(height), o(COPY, height - 1), o(RETURN)));
      ends("copy: not so many as " + height, INDEX, 0, then(pushes(height), o(COPY, height)));
    }
    ends("copy of nothing", INDEX, 0, o(COPY, 0));
    ends("copy of what was popped", INDEX, 0, o(PUSH, 1), o(PUSH, 2), o(WRITE, 0), o(COPY, 1));
  }

  /** "13 SELF: push the number of the ACCOUNT. 14 FROM: that of the FRAME that called (-1: none)." */
  private static void selvesAndCallers() {
    CallTraces x = scene(6);
    int teller = put(x, 0, 0, o(SELF), o(FROM), o(PUSH, 100), o(MATH, 2), o(MATH, 0), o(RETURN));
    x.member(5, 0, teller);
    put(x, 5, 1, o(SELF), o(CALL, 0, 0), o(RETURN));
    put(x, 0, 1, o(SELF), o(TRY, 5, 0), o(RETURN));
    put(x, 5, 2, o(SELF), o(CALL, 5, 0), o(RETURN));
    int[][] called = {{0, 0, -100}, {5, 0, -95}, {5, 1, 500}, {0, 1, 5}, {5, 2, 505}};
    for (int i = 0; i < called.length; i++) {
      x.call(called[i][0], called[i][1], 0, 100);
      due("self and from: " + i, x.result(i), called[i][2]);
    }
  }

  /** "15 FUNDS: push the BALANCE of ACCOUNT a"; "15: there is no such ACCOUNT" */
  private static void fundsOfAccounts() {
    CallTraces x = scene(6);
    x.fund(0, 0);
    x.fund(5, 1000000000L);
    put(x, 2, 0, o(FUNDS, 0), o(RETURN));
    put(x, 2, 1, o(FUNDS, 5), o(RETURN));
    put(x, 2, 2, o(FUNDS, 6), o(RETURN));
    for (int member = 0; member < 3; member++) {
      x.call(2, member, 0, 100);
    }
    due("funds of the first: 0", x.result(0), 0);
    due("funds of the first: no failure", x.trace(0, 1), 0);
    due("funds of the last: all there can be", x.result(1), 1000000000L);
    due("funds behind the last", x.trace(2, 1), NOTHING);
    for (long a : besideAsLongs(2)) {
      ends("funds of none: " + a, NOTHING, 0, o(FUNDS, a));
    }
  }

  /** "(What is not named is not looked at.)" */
  private static void notNamedNotLookedAt() {
    for (long a : new long[] {-1, 99, MIN, MAX}) {
      for (int b : beside(4)) {
        ends("a and b of ARGUMENT", 0, 77, o(ARGUMENT, a, b), o(RETURN, a, b));
        ends("a and b of SELF", 0, 0, o(SELF, a, b), o(RETURN, a, b));
        ends("a and b of FROM", 0, -1, o(FROM, a, b), o(RETURN, a, b));
      }
    }
    for (int b : beside(4)) {
      CallTraces x = ends("b of the others", OWN, 0, o(PUSH, 1, b), o(COPY, 0, b), o(MATH, 0, b), o(WRITE, 7, b), o(READ, 7, b), o(SEND, 1, b),
          o(FUNDS, 1, b), o(TELL, 0, b), o(PUSH, 1, b), o(JUMP, 11, b), o(READ, 8, b), o(FAIL, 5, b));
      due("b of the others: steps", x.trace(0, 0), 11);
      due("b of the others: number", x.trace(0, 2), 5);
    }
  }

  /** "something to be popped is not there" */
  private static void nothingToBePopped() {
    for (int kind : POPPERS) {
      CallTraces x = ends("nothing to be popped by " + kind, INDEX, 0, o(kind, 0, 0), o(SELF));
      due("nothing to be popped by " + kind + ": steps", x.trace(0, 0), 1);
      ends("no longer anything to be popped by " + kind, INDEX, 0, o(PUSH, 1), o(TELL, 0), o(kind, 0, 0));
    }
  }

  /** "An OP pops .., then looks": nothing to be popped is found ahead of what is looked at. */
  private static void popsAheadOfLooks() {
    ends("pops, then the account: SEND", INDEX, 0, o(SEND, 9));
    for (int kind = CALL; kind <= TRY; kind++) {
      ends("pops, then the account: " + kind, INDEX, 0, o(kind, 9, 0));
      ends("pops, then the member: " + kind, INDEX, 0, o(kind, 0, 9));
      ends("pops, then the program: " + kind, INDEX, 0, o(kind, 1, 0));
      CallTraces x = scene(1);
      put(x, 0, 0, o(READ, 0), o(PUSH, 1), o(MATH, 0), o(COPY, 0), o(WRITE, 0), o(PUSH, 6), o(MATH, 1), o(JUMP, 9), o(kind, 0, 0), o(SELF), o(kind, 0, 0));
      x.call(0, 0, 0, 100);
      due("pops, then DEEP: step " + kind, x.step(0, 58, 6), INDEX);
      due("pops, then DEEP: depth " + kind, x.step(0, 58, 0), 6);
    }
    ends("looks, then a 13th: FUNDS", NOTHING, 0, then(pushes(12), o(FUNDS, 2)));
  }

  /** Walks that count themselves in cell 0 and call themselves until six frames are within one another. */
  private static CallTraces sixDeep(int kind, long account, int member) {
    CallTraces x = scene(1);
    put(x, 0, 0, o(READ, 0), o(PUSH, 1), o(MATH, 0), o(COPY, 0), o(WRITE, 0), o(PUSH, 6), o(MATH, 1), o(JUMP, 10), o(PUSH, 9), o(kind, account, member),
        o(PUSH, 8), o(CALL, 0, 0));
    x.call(0, 0, 0, 100);
    return x;
  }

  /** "7 DEEP (6, 7: six FRAMES are within one another)" */
  private static void sixFrames() {
    for (int kind = CALL; kind <= TRY; kind++) {
      CallTraces x = sixDeep(kind, 0, 0);
      due("six frames: failure", x.trace(0, 1), DEEP);
      due("six frames: deepest", x.trace(0, 4), 6);
      due("six frames: steps", x.trace(0, 0), 60);
      due("six frames: the last step's depth", x.step(0, 59, 0), 6);
      due("six frames: its failure", x.step(0, 59, 6), DEEP);
      due("six frames: the fifth call is none", x.step(0, 49, 6), 0);
      CallTraces y = scene(1);
      put(y, 0, 0, o(ARGUMENT), o(JUMP, 4), o(PUSH, 3), o(RETURN), o(ARGUMENT), o(PUSH, 1), o(MATH, 1), o(kind, 0, 0), o(RETURN));
      y.call(0, 0, 5, 100);
      due("six frames: as many as there may be", y.trace(0, 4), 6);
      due("six frames: they end well", y.result(0), 3);
    }
  }

  /** "6, 7: pops, then NOTHING, then DEEP" */
  private static void nothingAheadOfDeep() {
    for (int kind = CALL; kind <= TRY; kind++) {
      due("NOTHING ahead of DEEP: no account", sixDeep(kind, 1, 0).trace(0, 1), NOTHING);
      due("NOTHING ahead of DEEP: no member", sixDeep(kind, 0, 4).trace(0, 1), NOTHING);
      due("NOTHING ahead of DEEP: no program", sixDeep(kind, 0, 1).trace(0, 1), NOTHING);
      due("NOTHING ahead of DEEP: six frames", sixDeep(kind, 0, 1).trace(0, 4), 6);
    }
  }

  /** "5: pops, NOTHING, LACK" */
  private static void nothingAheadOfLack() {
    for (long n : new long[] {-1, 1001}) {
      ends("NOTHING ahead of LACK", NOTHING, 0, o(PUSH, n), o(SEND, 2));
      ends("LACK", LACK, 0, o(PUSH, n), o(SEND, 1));
    }
  }

  /** "7 does not catch SPENT." */
  private static void triesDoNotCatchSpent() {
    CallTraces x = scene(1);
    put(x, 0, 0, o(SELF), o(TRY, 0, 1), o(RETURN));
    put(x, 0, 1, o(SELF), o(TRY, 0, 2), o(RETURN));
    put(x, 0, 2, o(PUSH, 1), o(RETURN));
    for (int limit = 1; limit <= 7; limit++) {
      x.call(0, 0, 0, limit);
      due("SPENT is not caught: limit " + limit, x.trace(limit - 1, 1), SPENT);
      due("SPENT is not caught: steps", x.trace(limit - 1, 0), limit);
      due("SPENT is not caught: the last step did not fail", x.step(limit - 1, limit - 1, 6), 0);
    }
    x.drop();
    x.call(0, 0, 0, 8);
    due("SPENT is not caught: just enough", x.trace(0, 1), 0);
    due("SPENT is not caught: steps", x.trace(0, 0), 8);
    triesDoNotCatchSpentThoughMoreCouldBegin();
  }

  /** Behind the try the frame would end, or go on with ops that are cheap enough: it does neither. */
  private static void triesDoNotCatchSpentThoughMoreCouldBegin() {
    CallTraces x = scene(1);
    put(x, 0, 0, o(SELF), o(TRY, 0, 2));
    put(x, 0, 1, o(SELF), o(TRY, 0, 2), o(WRITE, 0), o(SELF), o(RETURN));
    put(x, 0, 2, o(FROM));
    put(x, 0, 3, o(SELF), o(TRY, 0, 0));
    x.price(FROM, 50);
    int[] members = {0, 1, 3};
    for (int i = 0; i < 3; i++) {
      x.call(0, members[i], 0, 49);
      due("SPENT is not caught: failure of " + members[i], x.trace(i, 1), SPENT);
      due("SPENT is not caught: steps of " + members[i], x.trace(i, 0), i == 2 ? 4 : 2);
    }
    due("SPENT is not caught: nothing is written behind it", x.cell(0, 0), 0);
  }

  /** "7 TRY: .. if that FAILS": what fails is the member that is walked, not the try itself. */
  private static void triesDoNotCatchTheirOwn() {
    CallTraces x = ends("a try's own NOTHING", NOTHING, 0, o(SELF), o(TRY, 1, 0), o(PUSH, 1), o(RETURN));
    due("a try's own NOTHING: steps", x.trace(0, 0), 2);
    CallTraces y = ends("a try's own INDEX", INDEX, 0, o(TRY, 0, 0), o(PUSH, 1), o(RETURN));
    due("a try's own INDEX: steps", y.trace(0, 0), 1);
    due("a try's own DEEP", sixDeep(TRY, 0, 0).trace(0, 1), DEEP);
  }
}
