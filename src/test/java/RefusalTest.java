import java.util.List;

/**
 * "Refused, and nothing changes: UNKNOWN (there is no such thing), OUTSIDE (a number is not as told), STATE (not
 * now), FULL; the first of these that fits." Every way in which each call is refused, the order of the refusals, and
 * that the object is left as one to which the call was never made.
 */
public final class RefusalTest extends Checks {
  private interface Scene {
    CallTraces made();
  }

  private interface Asked {
    long of(CallTraces x);
  }

  public static void main(String[] args) {
    portraitsTellChanges();
    programs();
    ops();
    opsInOrder();
    accounts();
    members();
    membersInOrder();
    prices();
    funds();
    cells();
    balances();
    calls();
    callsWhenFull();
    callsInOrder();
    traces();
    results();
    steps();
    values();
    searches();
    flames();
    touches();
    flows();
    tells();
    tolds();
    backs();
    comparesAndHalves();
    writes();
    outs();
    counts();
    ofNewObject();
    end();
  }

  private static void refused(String what, Scene scene, Asked call, long want) {
    CallTraces asked = scene.made();
    due(what, call.of(asked), want);
    List<String> got = Portrait.of(asked);
    List<String> left = Portrait.of(scene.made());
    due(what + ": nothing changes, answers", got.size(), left.size());
    for (int i = 0; i < Math.min(got.size(), left.size()); i++) {
      dueText(what + ": nothing changes", got.get(i), left.get(i));
    }
  }

  /** Two accounts, two programs, members (0, 0) and (1, 3), a price of 3, a cell and OUT written; no trace is kept. */
  private static CallTraces open() {
    CallTraces x = scene(2);
    put(x, 0, 0, o(PUSH, 7), o(COPY, 0), o(WRITE, 1), o(TELL, 4), o(PUSH, 5), o(SEND, 1), o(ARGUMENT), o(JUMP, 9), o(FAIL, 3), o(SELF));
    put(x, 1, 3, o(SELF), o(CALL, 0, 0), o(RETURN));
    x.price(SELF, 3);
    x.call(1, 3, 0, 100);
    x.write(0, 0);
    x.drop();
    return x;
  }

  /** The same, and two traces are kept: one of 9 steps with a tell, a touch and a send, one that failed. */
  private static CallTraces kept() {
    CallTraces x = open();
    x.call(0, 0, 1, 100);
    x.call(0, 0, 0, 100);
    return x;
  }

  /** The least that is kept: one trace, without a step. */
  private static CallTraces keptOne() {
    CallTraces x = open();
    x.price(PUSH, 50);
    x.call(0, 0, 1, 1);
    return x;
  }

  private static CallTraces fullOfPrograms() {
    CallTraces x = open();
    for (int i = 2; i < 8; i++) {
      x.program();
    }
    return x;
  }

  /** Program 1 has 20 ops. */
  private static CallTraces fullOfOps() {
    CallTraces x = open();
    for (int i = 3; i < 20; i++) {
      x.op(1, SELF, 0, 0);
    }
    return x;
  }

  private static CallTraces fullOfOpsAndKept() {
    CallTraces x = fullOfOps();
    x.call(0, 0, 1, 100);
    return x;
  }

  private static CallTraces fullOfAccounts() {
    CallTraces x = open();
    for (int i = 2; i < 6; i++) {
      x.account();
    }
    return x;
  }

  private static CallTraces fullOfAccountsAndKept() {
    CallTraces x = fullOfAccounts();
    x.call(0, 0, 1, 100);
    return x;
  }

  private static CallTraces fullOfTraces() {
    CallTraces x = open();
    for (int i = 0; i < 8; i++) {
      x.call(0, 0, i % 2, 100);
    }
    return x;
  }

  /** 150 calls were made, and none of their traces is kept. */
  private static CallTraces fullOfCalls() {
    CallTraces x = open();
    for (int i = 1; i < 150; i++) {
      if (x.call(0, 0, 0, 1) == 7) {
        x.drop();
      }
    }
    x.drop();
    return x;
  }

  /** Were a portrait blind to something, that nothing changes would be held of it for nothing. */
  private static void portraitsTellChanges() {
    changed("program()", RefusalTest::open, x -> x.program());
    changed("op()", RefusalTest::open, x -> x.op(1, SELF, 0, 0));
    changed("account()", RefusalTest::open, x -> x.account());
    changed("member()", RefusalTest::open, x -> x.member(1, 0, 0));
    changed("member() of none", RefusalTest::open, x -> x.member(0, 0, -1));
    changed("price()", RefusalTest::open, x -> x.price(FUNDS, 2));
    changed("fund()", RefusalTest::kept, x -> x.fund(1, 3));
    changed("call()", RefusalTest::kept, x -> x.call(0, 0, 0, 1));
    changed("drop()", RefusalTest::kept, x -> x.drop());
    changed("write()", RefusalTest::kept, x -> x.write(0, 1));
  }

  private static void changed(String what, Scene scene, Asked call) {
    CallTraces asked = scene.made();
    due(what + " is not refused", call.of(asked) >= 0 ? 1 : 0, 1);
    due(what + " is told by a portrait", Portrait.of(asked).equals(Portrait.of(scene.made())) ? 1 : 0, 0);
  }

  private static void programs() {
    refused("2: FULL", RefusalTest::fullOfPrograms, x -> x.program(), FULL);
  }

  private static void ops() {
    for (int program : beside(2)) {
      refused("3: UNKNOWN: program " + program, RefusalTest::open, x -> x.op(program, SELF, 0, 0), UNKNOWN);
    }
    refused("3: UNKNOWN: behind the last program", RefusalTest::fullOfPrograms, x -> x.op(8, SELF, 0, 0), UNKNOWN);
    for (int kind : beside(16)) {
      refused("3: OUTSIDE: kind " + kind, RefusalTest::open, x -> x.op(0, kind, 0, 0), OUTSIDE);
    }
    refused("3: STATE", RefusalTest::kept, x -> x.op(0, SELF, 0, 0), STATE);
    refused("3: STATE: one trace", RefusalTest::keptOne, x -> x.op(0, SELF, 0, 0), STATE);
    refused("3: FULL", RefusalTest::fullOfOps, x -> x.op(1, SELF, 0, 0), FULL);
  }

  private static void opsInOrder() {
    refused("3: UNKNOWN, OUTSIDE", RefusalTest::open, x -> x.op(2, 16, 0, 0), UNKNOWN);
    refused("3: UNKNOWN, STATE", RefusalTest::kept, x -> x.op(2, SELF, 0, 0), UNKNOWN);
    refused("3: UNKNOWN, OUTSIDE, STATE", RefusalTest::kept, x -> x.op(-1, -1, 0, 0), UNKNOWN);
    refused("3: OUTSIDE, STATE", RefusalTest::kept, x -> x.op(0, 16, 0, 0), OUTSIDE);
    refused("3: OUTSIDE, FULL", RefusalTest::fullOfOps, x -> x.op(1, 16, 0, 0), OUTSIDE);
    refused("3: OUTSIDE, STATE, FULL", RefusalTest::fullOfOpsAndKept, x -> x.op(1, -1, 0, 0), OUTSIDE);
    refused("3: STATE, FULL", RefusalTest::fullOfOpsAndKept, x -> x.op(1, SELF, 0, 0), STATE);
  }

  private static void accounts() {
    refused("4: STATE", RefusalTest::kept, x -> x.account(), STATE);
    refused("4: STATE: one trace", RefusalTest::keptOne, x -> x.account(), STATE);
    refused("4: FULL", RefusalTest::fullOfAccounts, x -> x.account(), FULL);
    refused("4: STATE, FULL", RefusalTest::fullOfAccountsAndKept, x -> x.account(), STATE);
  }

  private static void members() {
    for (int account : beside(2)) {
      refused("5: UNKNOWN: account " + account, RefusalTest::open, x -> x.member(account, 0, 1), UNKNOWN);
    }
    refused("5: UNKNOWN: behind the last account", RefusalTest::fullOfAccounts, x -> x.member(6, 0, 1), UNKNOWN);
    for (int program : new int[] {-2, 2, Integer.MIN_VALUE, Integer.MAX_VALUE}) {
      refused("5: UNKNOWN: program " + program, RefusalTest::open, x -> x.member(0, 0, program), UNKNOWN);
    }
    refused("5: UNKNOWN: behind the last program", RefusalTest::fullOfPrograms, x -> x.member(0, 0, 8), UNKNOWN);
    for (int member : beside(4)) {
      refused("5: OUTSIDE: member " + member, RefusalTest::open, x -> x.member(1, member, 0), OUTSIDE);
      refused("5: OUTSIDE: member " + member + ", none", RefusalTest::open, x -> x.member(0, member, -1), OUTSIDE);
    }
    refused("5: STATE", RefusalTest::kept, x -> x.member(0, 0, 1), STATE);
    refused("5: STATE: one trace", RefusalTest::keptOne, x -> x.member(0, 0, 1), STATE);
    refused("5: STATE, none", RefusalTest::kept, x -> x.member(0, 0, -1), STATE);
    refused("5: STATE, as it is already", RefusalTest::kept, x -> x.member(0, 0, 0), STATE);
  }

  private static void membersInOrder() {
    refused("5: UNKNOWN account, OUTSIDE", RefusalTest::open, x -> x.member(2, 4, 0), UNKNOWN);
    refused("5: UNKNOWN account, OUTSIDE, none", RefusalTest::open, x -> x.member(2, 4, -1), UNKNOWN);
    refused("5: UNKNOWN program, OUTSIDE", RefusalTest::open, x -> x.member(0, 4, 2), UNKNOWN);
    refused("5: UNKNOWN account, STATE", RefusalTest::kept, x -> x.member(2, 0, 0), UNKNOWN);
    refused("5: UNKNOWN program, STATE", RefusalTest::kept, x -> x.member(0, 0, 2), UNKNOWN);
    refused("5: UNKNOWN, OUTSIDE, STATE", RefusalTest::kept, x -> x.member(-1, -1, -2), UNKNOWN);
    refused("5: OUTSIDE, STATE", RefusalTest::kept, x -> x.member(0, 4, 0), OUTSIDE);
  }

  private static void prices() {
    for (int kind : beside(16)) {
      refused("6: OUTSIDE: kind " + kind, RefusalTest::open, x -> x.price(kind, 2), OUTSIDE);
    }
    for (int n : new int[] {0, 51, -1, Integer.MIN_VALUE, Integer.MAX_VALUE}) {
      refused("6: OUTSIDE: n " + n, RefusalTest::open, x -> x.price(SELF, n), OUTSIDE);
      refused("6: OUTSIDE, STATE: n " + n, RefusalTest::kept, x -> x.price(SELF, n), OUTSIDE);
    }
    refused("6: STATE", RefusalTest::kept, x -> x.price(SELF, 2), STATE);
    refused("6: STATE: one trace", RefusalTest::keptOne, x -> x.price(SELF, 2), STATE);
    refused("6: STATE, as it is already", RefusalTest::kept, x -> x.price(SELF, 3), STATE);
    refused("6: OUTSIDE, STATE: kind", RefusalTest::kept, x -> x.price(16, 2), OUTSIDE);
  }

  private static void funds() {
    for (int account : beside(2)) {
      refused("7: UNKNOWN: account " + account, RefusalTest::open, x -> x.fund(account, 5), UNKNOWN);
      refused("7: UNKNOWN, OUTSIDE: account " + account, RefusalTest::kept, x -> x.fund(account, -1), UNKNOWN);
    }
    refused("7: UNKNOWN: behind the last account", RefusalTest::fullOfAccounts, x -> x.fund(6, 5), UNKNOWN);
    for (long n : new long[] {-1, 1000000001L, MIN, MAX, 1L << 32, -(1L << 32)}) {
      refused("7: OUTSIDE: n " + n, RefusalTest::open, x -> x.fund(1, n), OUTSIDE);
      refused("7: OUTSIDE while traces are kept: n " + n, RefusalTest::kept, x -> x.fund(0, n), OUTSIDE);
    }
  }

  private static void cells() {
    for (int account : beside(2)) {
      refused("8: UNKNOWN: 0: account " + account, RefusalTest::open, x -> x.cell(account, 1), 0);
      refused("8: UNKNOWN and OUTSIDE: 0: account " + account, RefusalTest::open, x -> x.cell(account, 8), 0);
    }
    for (int cell : beside(8)) {
      refused("8: OUTSIDE: 0: cell " + cell, RefusalTest::open, x -> x.cell(0, cell), 0);
      refused("8: OUTSIDE: 0: of the other account: cell " + cell, RefusalTest::open, x -> x.cell(1, cell), 0);
    }
  }

  private static void balances() {
    for (int account : beside(2)) {
      refused("9: UNKNOWN: account " + account, RefusalTest::open, x -> x.balance(account), UNKNOWN);
    }
    refused("9: UNKNOWN: behind the last account", RefusalTest::fullOfAccounts, x -> x.balance(6), UNKNOWN);
  }

  private static void calls() {
    for (int account : beside(2)) {
      refused("10: UNKNOWN: account " + account, RefusalTest::open, x -> x.call(account, 0, 1, 100), UNKNOWN);
    }
    for (int member : beside(4)) {
      refused("10: OUTSIDE: member " + member, RefusalTest::kept, x -> x.call(0, member, 1, 100), OUTSIDE);
      refused("10: OUTSIDE: member " + member + " of 1", RefusalTest::kept, x -> x.call(1, member, 1, 100), OUTSIDE);
    }
    for (int limit : new int[] {0, 101, -1, Integer.MIN_VALUE, Integer.MAX_VALUE}) {
      refused("10: OUTSIDE: limit " + limit, RefusalTest::kept, x -> x.call(0, 0, 1, limit), OUTSIDE);
    }
    for (int member = 1; member < 4; member++) {
      int none = member;
      refused("10: STATE: no program as member " + none, RefusalTest::kept, x -> x.call(0, none, 1, 100), STATE);
    }
  }

  private static void callsWhenFull() {
    refused("10: FULL: 8 traces", RefusalTest::fullOfTraces, x -> x.call(0, 0, 1, 100), FULL);
    refused("10: FULL: 150 calls", RefusalTest::fullOfCalls, x -> x.call(0, 0, 1, 100), FULL);
  }

  private static void callsInOrder() {
    refused("10: UNKNOWN, OUTSIDE member", RefusalTest::open, x -> x.call(2, 4, 1, 100), UNKNOWN);
    refused("10: UNKNOWN, OUTSIDE limit", RefusalTest::open, x -> x.call(2, 0, 1, 0), UNKNOWN);
    refused("10: OUTSIDE limit, STATE", RefusalTest::open, x -> x.call(0, 1, 1, 101), OUTSIDE);
    for (Scene full : List.<Scene>of(RefusalTest::fullOfTraces, RefusalTest::fullOfCalls)) {
      refused("10: UNKNOWN, FULL", full, x -> x.call(2, 0, 1, 100), UNKNOWN);
      refused("10: OUTSIDE member, FULL", full, x -> x.call(0, 4, 1, 100), OUTSIDE);
      refused("10: OUTSIDE limit, FULL", full, x -> x.call(0, 0, 1, 101), OUTSIDE);
      refused("10: OUTSIDE limit, STATE, FULL", full, x -> x.call(0, 1, 1, 0), OUTSIDE);
      refused("10: STATE, FULL", full, x -> x.call(0, 1, 1, 100), STATE);
    }
  }

  private static void traces() {
    for (int trace : beside(2)) {
      refused("12: UNKNOWN: trace " + trace, RefusalTest::kept, x -> x.trace(trace, 0), UNKNOWN);
      refused("12: UNKNOWN, OUTSIDE: trace " + trace, RefusalTest::kept, x -> x.trace(trace, 7), UNKNOWN);
    }
    for (int what : beside(7)) {
      refused("12: OUTSIDE: what " + what, RefusalTest::kept, x -> x.trace(0, what), OUTSIDE);
    }
    refused("12: UNKNOWN: behind the last trace", RefusalTest::fullOfTraces, x -> x.trace(8, 0), UNKNOWN);
    refused("12: UNKNOWN: dropped", RefusalTest::open, x -> x.trace(0, 0), UNKNOWN);
  }

  private static void results() {
    for (int trace : beside(2)) {
      refused("13: UNKNOWN: trace " + trace, RefusalTest::kept, x -> x.result(trace), UNKNOWN);
    }
    refused("13: UNKNOWN: behind the last trace", RefusalTest::fullOfTraces, x -> x.result(8), UNKNOWN);
    refused("13: UNKNOWN: dropped", RefusalTest::open, x -> x.result(0), UNKNOWN);
  }

  private static void steps() {
    for (int trace : beside(2)) {
      refused("14: UNKNOWN: trace " + trace, RefusalTest::kept, x -> x.step(trace, 0, 0), UNKNOWN);
      refused("14: UNKNOWN, OUTSIDE: trace " + trace, RefusalTest::kept, x -> x.step(trace, 0, 7), UNKNOWN);
    }
    for (int k : beside(9)) {
      refused("14: UNKNOWN: step " + k, RefusalTest::kept, x -> x.step(0, k, 0), UNKNOWN);
      refused("14: UNKNOWN, OUTSIDE: step " + k, RefusalTest::kept, x -> x.step(0, k, -1), UNKNOWN);
    }
    for (int what : beside(7)) {
      refused("14: OUTSIDE: what " + what, RefusalTest::kept, x -> x.step(0, 8, what), OUTSIDE);
    }
    refused("14: UNKNOWN: dropped", RefusalTest::open, x -> x.step(0, 0, 0), UNKNOWN);
  }

  private static void values() {
    for (int trace : beside(2)) {
      refused("15: UNKNOWN: trace " + trace, RefusalTest::kept, x -> x.value(trace, 0), UNKNOWN);
    }
    for (int k : beside(9)) {
      refused("15: UNKNOWN: step " + k, RefusalTest::kept, x -> x.value(0, k), UNKNOWN);
    }
    refused("15: UNKNOWN: dropped", RefusalTest::open, x -> x.value(0, 0), UNKNOWN);
  }

  private static void searches() {
    for (int trace : beside(2)) {
      refused("16: UNKNOWN: trace " + trace, RefusalTest::kept, x -> x.search(trace, PUSH, 0), UNKNOWN);
      refused("16: UNKNOWN, OUTSIDE: trace " + trace, RefusalTest::kept, x -> x.search(trace, PUSH, -1), UNKNOWN);
    }
    for (int from : new int[] {-1, Integer.MIN_VALUE}) {
      refused("16: OUTSIDE: from " + from, RefusalTest::kept, x -> x.search(0, PUSH, from), OUTSIDE);
      refused("16: OUTSIDE, not NONE: from " + from, RefusalTest::kept, x -> x.search(0, 99, from), OUTSIDE);
    }
  }

  private static void flames() {
    for (int trace : beside(2)) {
      refused("17: UNKNOWN: trace " + trace, RefusalTest::kept, x -> x.flame(trace, 0, 0, true), UNKNOWN);
      refused("17: UNKNOWN, OUTSIDE: trace " + trace, RefusalTest::kept, x -> x.flame(trace, 0, 4, false), UNKNOWN);
    }
    for (int account : beside(2)) {
      refused("17: UNKNOWN: account " + account, RefusalTest::kept, x -> x.flame(0, account, 0, false), UNKNOWN);
      refused("17: UNKNOWN, OUTSIDE: account " + account, RefusalTest::kept, x -> x.flame(0, account, -1, true), UNKNOWN);
    }
    for (int member : beside(4)) {
      refused("17: OUTSIDE: member " + member, RefusalTest::kept, x -> x.flame(0, 0, member, true), OUTSIDE);
      refused("17: OUTSIDE: without: member " + member, RefusalTest::kept, x -> x.flame(0, 1, member, false), OUTSIDE);
    }
  }

  private static void touches() {
    for (int trace : beside(2)) {
      refused("18: UNKNOWN: trace " + trace, RefusalTest::kept, x -> x.touch(trace, 0, 0), UNKNOWN);
      refused("18: UNKNOWN, OUTSIDE: trace " + trace, RefusalTest::kept, x -> x.touch(trace, 0, 4), UNKNOWN);
    }
    for (int i : beside(1)) {
      refused("18: UNKNOWN: touch " + i, RefusalTest::kept, x -> x.touch(0, i, 0), UNKNOWN);
      refused("18: UNKNOWN, OUTSIDE: touch " + i, RefusalTest::kept, x -> x.touch(0, i, -1), UNKNOWN);
    }
    for (int what : beside(4)) {
      refused("18: OUTSIDE: what " + what, RefusalTest::kept, x -> x.touch(0, 0, what), OUTSIDE);
    }
    refused("18: UNKNOWN: dropped", RefusalTest::open, x -> x.touch(0, 0, 0), UNKNOWN);
  }

  private static void flows() {
    for (int trace : beside(2)) {
      refused("19: UNKNOWN: trace " + trace, RefusalTest::kept, x -> x.flow(trace, 0, true), UNKNOWN);
    }
    for (int account : beside(2)) {
      refused("19: UNKNOWN: got, account " + account, RefusalTest::kept, x -> x.flow(0, account, true), UNKNOWN);
      refused("19: UNKNOWN: sent, account " + account, RefusalTest::kept, x -> x.flow(0, account, false), UNKNOWN);
    }
    refused("19: UNKNOWN: dropped", RefusalTest::open, x -> x.flow(0, 0, true), UNKNOWN);
  }

  private static void tells() {
    for (int trace : beside(2)) {
      refused("20: UNKNOWN: trace " + trace, RefusalTest::kept, x -> x.tell(trace, 0, 0, 0), UNKNOWN);
      refused("20: UNKNOWN, OUTSIDE: trace " + trace, RefusalTest::kept, x -> x.tell(trace, 0, 0, 2), UNKNOWN);
    }
    for (int account : beside(2)) {
      refused("20: UNKNOWN: account " + account, RefusalTest::kept, x -> x.tell(0, account, 0, 1), UNKNOWN);
      refused("20: UNKNOWN, OUTSIDE: account " + account, RefusalTest::kept, x -> x.tell(0, account, 0, -1), UNKNOWN);
    }
    for (int i : beside(1)) {
      refused("20: UNKNOWN: there is none such: " + i, RefusalTest::kept, x -> x.tell(0, 0, i, 0), UNKNOWN);
      refused("20: UNKNOWN, OUTSIDE: none such: " + i, RefusalTest::kept, x -> x.tell(0, 0, i, 2), UNKNOWN);
    }
    refused("20: UNKNOWN: an account that told nothing", RefusalTest::kept, x -> x.tell(0, 1, 0, 0), UNKNOWN);
    for (int what : beside(2)) {
      refused("20: OUTSIDE: what " + what, RefusalTest::kept, x -> x.tell(0, 0, 0, what), OUTSIDE);
    }
  }

  private static void tolds() {
    for (int trace : beside(2)) {
      refused("21: UNKNOWN: trace " + trace, RefusalTest::kept, x -> x.told(trace, 0), UNKNOWN);
    }
    for (int i : beside(1)) {
      refused("21: UNKNOWN: tell " + i, RefusalTest::kept, x -> x.told(0, i), UNKNOWN);
    }
    refused("21: UNKNOWN: dropped", RefusalTest::open, x -> x.told(0, 0), UNKNOWN);
  }

  private static void backs() {
    for (int trace : beside(2)) {
      refused("22: UNKNOWN: trace " + trace, RefusalTest::kept, x -> x.back(trace, 0), UNKNOWN);
    }
    for (int k : beside(10)) {
      refused("22: UNKNOWN: step " + k, RefusalTest::kept, x -> x.back(0, k), UNKNOWN);
      refused("22: UNKNOWN: of the one that failed: step " + k, RefusalTest::kept, x -> x.back(1, k), UNKNOWN);
    }
    refused("22: UNKNOWN: dropped", RefusalTest::open, x -> x.back(0, 0), UNKNOWN);
  }

  private static void comparesAndHalves() {
    for (int trace : beside(2)) {
      refused("24: UNKNOWN: one " + trace, RefusalTest::kept, x -> x.compare(trace, 0), UNKNOWN);
      refused("24: UNKNOWN: other " + trace, RefusalTest::kept, x -> x.compare(1, trace), UNKNOWN);
      refused("24: UNKNOWN: both " + trace, RefusalTest::kept, x -> x.compare(trace, trace), UNKNOWN);
      refused("25: UNKNOWN: one " + trace, RefusalTest::kept, x -> x.halves(trace, 0), UNKNOWN);
      refused("25: UNKNOWN: other " + trace, RefusalTest::kept, x -> x.halves(1, trace), UNKNOWN);
      refused("25: UNKNOWN: both " + trace, RefusalTest::kept, x -> x.halves(trace, trace), UNKNOWN);
    }
  }

  private static void writes() {
    for (int trace : beside(2)) {
      refused("26: UNKNOWN: trace " + trace, RefusalTest::kept, x -> x.write(trace, 0), UNKNOWN);
    }
    for (int k : beside(9)) {
      refused("26: UNKNOWN: step " + k, RefusalTest::kept, x -> x.write(0, k), UNKNOWN);
    }
    refused("26: UNKNOWN: dropped", RefusalTest::open, x -> x.write(0, 0), UNKNOWN);
  }

  /** What is written in the scene is "1 1.3:0 13 1". */
  private static void outs() {
    for (int i : beside(12)) {
      refused("27: NONE: byte " + i, RefusalTest::kept, x -> x.out(i), NONE);
    }
  }

  private static void counts() {
    for (int what : beside(4)) {
      refused("28: OUTSIDE: what " + what, RefusalTest::kept, x -> x.count(what), OUTSIDE);
    }
  }

  private static void ofNewObject() {
    Scene bare = CallTraces::new;
    refused("1: no program", bare, x -> x.op(0, PUSH, 0, 0), UNKNOWN);
    refused("1: no account for a member", bare, x -> x.member(0, 0, -1), UNKNOWN);
    refused("1: no account for funds", bare, x -> x.fund(0, 0), UNKNOWN);
    refused("1: no account's cell", bare, x -> x.cell(0, 0), 0);
    refused("1: no account's balance", bare, x -> x.balance(0), UNKNOWN);
    refused("1: no account to call", bare, x -> x.call(0, 0, 0, 1), UNKNOWN);
    refused("1: no trace", bare, x -> x.trace(0, 0), UNKNOWN);
    refused("1: no trace's result", bare, x -> x.result(0), UNKNOWN);
    refused("1: no trace to search", bare, x -> x.search(0, 0, 0), UNKNOWN);
    refused("1: no trace to walk anew", bare, x -> x.back(0, 0), UNKNOWN);
    refused("1: no traces to compare", bare, x -> x.compare(0, 0), UNKNOWN);
    refused("1: no traces to halve", bare, x -> x.halves(0, 0), UNKNOWN);
    refused("1: no step to write", bare, x -> x.write(0, 0), UNKNOWN);
    refused("1: nothing is written", bare, x -> x.out(0), NONE);
  }
}
