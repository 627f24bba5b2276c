/** Promises 1 to 11, 23 and 28: what stands around the walks, and how calls are refused. */
public final class SetupTest {
  public static void main(String[] args) {
    newObject();
    programs();
    ops();
    accounts();
    members();
    prices();
    funds();
    cellsAndBalances();
    callRefusals();
    fullOfCalls();
    drops();
    states();
    counts();
    Checks.end();
  }

  private static void newObject() {
    CallTraces x = new CallTraces();
    for (int what = 0; what < 4; what++) {
      Checks.due("1: count(" + what + ")", x.count(what), 0);
    }
    Checks.due("1: state()", x.state(), 17);
    Checks.due("1: trace(0, 0)", x.trace(0, 0), Checks.UNKNOWN);
    Checks.due("1: balance(0)", x.balance(0), Checks.UNKNOWN);
    Checks.due("1: out(0)", x.out(0), Checks.NONE);
    Checks.due("1: drop()", x.drop(), 0);
    Checks.due("1: op(0, 0, 0, 0)", x.op(0, 0, 0, 0), Checks.UNKNOWN);
    CallTraces y = Checks.scene(1);
    Checks.due("1: another object is its own", x.count(1), 0);
    Checks.due("1: count(1)", y.count(1), 1);
  }

  private static void programs() {
    CallTraces x = new CallTraces();
    for (int i = 0; i < 8; i++) {
      Checks.due("2: program()", x.program(), i);
    }
    Checks.due("2: program() when full", x.program(), Checks.FULL);
    Checks.due("2: count(0)", x.count(0), 8);
    CallTraces y = Checks.scene(1);
    Checks.put(y, 0, 0);
    y.call(0, 0, 0, 1);
    Checks.due("2: program() while traces are kept", y.program(), 1);
  }

  private static void ops() {
    CallTraces x = new CallTraces();
    x.program();
    x.account();
    Checks.due("3: UNKNOWN ahead of OUTSIDE", x.op(1, 16, 0, 0), Checks.UNKNOWN);
    Checks.due("3: program -1", x.op(-1, 0, 0, 0), Checks.UNKNOWN);
    Checks.due("3: program 8", x.op(8, 0, 0, 0), Checks.UNKNOWN);
    Checks.due("3: kind -1", x.op(0, -1, 0, 0), Checks.OUTSIDE);
    Checks.due("3: kind 16", x.op(0, 16, 0, 0), Checks.OUTSIDE);
    Checks.due("3: kind max", x.op(0, Integer.MAX_VALUE, 0, 0), Checks.OUTSIDE);
    for (int i = 0; i < 20; i++) {
      Checks.due("3: op()", x.op(0, i % 16, Long.MIN_VALUE, Integer.MIN_VALUE), i + 1);
    }
    Checks.due("3: OUTSIDE ahead of FULL", x.op(0, 16, 0, 0), Checks.OUTSIDE);
    Checks.due("3: op() when full", x.op(0, 15, 0, 0), Checks.FULL);
    x.member(0, 0, 0);
    x.call(0, 0, 0, 1);
    Checks.due("3: STATE ahead of FULL", x.op(0, 15, 0, 0), Checks.STATE);
    Checks.due("3: OUTSIDE ahead of STATE", x.op(0, 16, 0, 0), Checks.OUTSIDE);
    Checks.due("3: UNKNOWN ahead of STATE", x.op(1, 0, 0, 0), Checks.UNKNOWN);
  }

  private static void accounts() {
    CallTraces x = new CallTraces();
    for (int i = 0; i < 6; i++) {
      Checks.due("4: account()", x.account(), i);
    }
    Checks.due("4: account() when full", x.account(), Checks.FULL);
    Checks.put(x, 0, 0);
    x.call(0, 0, 0, 1);
    Checks.due("4: STATE ahead of FULL", x.account(), Checks.STATE);
    x.drop();
    Checks.due("4: full again", x.account(), Checks.FULL);
    Checks.due("4: count(1)", x.count(1), 6);
  }

  private static void members() {
    CallTraces x = Checks.scene(2);
    x.program();
    Checks.due("5: member(0, 3, 0)", x.member(0, 3, 0), 1);
    Checks.due("5: account 2", x.member(2, 4, 0), Checks.UNKNOWN);
    Checks.due("5: account -1", x.member(-1, 0, 0), Checks.UNKNOWN);
    Checks.due("5: program 1", x.member(0, 4, 1), Checks.UNKNOWN);
    Checks.due("5: program -2", x.member(0, 0, -2), Checks.UNKNOWN);
    Checks.due("5: member 4", x.member(0, 4, 0), Checks.OUTSIDE);
    Checks.due("5: member -1", x.member(0, -1, -1), Checks.OUTSIDE);
    Checks.due("5: the refused changed nothing", x.call(0, 0, 0, 1), Checks.STATE);
    Checks.due("5: call of the member", x.call(0, 3, 0, 1), 0);
    Checks.due("5: STATE", x.member(0, 3, -1), Checks.STATE);
    Checks.due("5: OUTSIDE ahead of STATE", x.member(0, 4, -1), Checks.OUTSIDE);
    Checks.due("5: UNKNOWN ahead of STATE", x.member(0, 3, 1), Checks.UNKNOWN);
    x.drop();
    Checks.due("5: none", x.member(0, 3, -1), 1);
    Checks.due("5: call of none", x.call(0, 3, 0, 1), Checks.STATE);
    Checks.due("5: member of the other account is its own", x.call(1, 3, 0, 1), Checks.STATE);
  }

  private static void prices() {
    CallTraces x = Checks.scene(1);
    for (int kind = 0; kind < 16; kind++) {
      Checks.due("6: price at first", x.price(kind, 50), 1);
      Checks.due("6: price it was", x.price(kind, 1), 50);
    }
    Checks.due("6: kind -1", x.price(-1, 1), Checks.OUTSIDE);
    Checks.due("6: kind 16", x.price(16, 1), Checks.OUTSIDE);
    Checks.due("6: n = 0", x.price(0, 0), Checks.OUTSIDE);
    Checks.due("6: n = 51", x.price(0, 51), Checks.OUTSIDE);
    Checks.due("6: n = -5", x.price(0, -5), Checks.OUTSIDE);
    Checks.put(x, 0, 0, Checks.o(Checks.PUSH, 1), Checks.o(Checks.SELF));
    x.price(Checks.PUSH, 7);
    x.call(0, 0, 0, 100);
    Checks.due("6: price of a step", x.step(0, 0, 5), 7);
    Checks.due("6: price of the other step", x.step(0, 1, 5), 1);
    Checks.due("6: STATE", x.price(0, 1), Checks.STATE);
    Checks.due("6: OUTSIDE ahead of STATE", x.price(0, 51), Checks.OUTSIDE);
    x.drop();
    Checks.due("6: the refused changed nothing", x.price(0, 1), 7);
  }

  private static void funds() {
    CallTraces x = new CallTraces();
    x.account();
    Checks.due("7: fund", x.fund(0, 1000000000L), 0);
    Checks.due("7: above", x.fund(0, 1000000001L), Checks.OUTSIDE);
    Checks.due("7: below", x.fund(0, -1), Checks.OUTSIDE);
    Checks.due("7: wraps", x.fund(0, 1L << 32 | 5), Checks.OUTSIDE);
    Checks.due("7: UNKNOWN ahead of OUTSIDE", x.fund(1, -1), Checks.UNKNOWN);
    Checks.due("7: account -1", x.fund(-1, 5), Checks.UNKNOWN);
    Checks.due("7: what it was", x.fund(0, 0), 1000000000L);
    Checks.put(x, 0, 0);
    x.call(0, 0, 0, 1);
    Checks.due("7: while traces are kept", x.fund(0, 3), 0);
    Checks.due("7: balance", x.balance(0), 3);
  }

  private static void cellsAndBalances() {
    CallTraces x = Checks.scene(2);
    Checks.put(x, 1, 0, Checks.o(Checks.ARGUMENT), Checks.o(Checks.WRITE, 7), Checks.o(Checks.PUSH, 4), Checks.o(Checks.WRITE, 0));
    x.call(1, 0, Long.MIN_VALUE, 9);
    Checks.due("8: cell(1, 7)", x.cell(1, 7), Long.MIN_VALUE);
    Checks.due("8: cell(1, 0)", x.cell(1, 0), 4);
    Checks.due("8: cell(0, 7)", x.cell(0, 7), 0);
    Checks.due("8: cell(1, 8)", x.cell(1, 8), 0);
    Checks.due("8: cell(0, 9): the place of the next account's", x.cell(0, 9), 0);
    Checks.due("8: cell(1, -1)", x.cell(1, -1), 0);
    Checks.due("8: cell(2, 0)", x.cell(2, 0), 0);
    Checks.due("8: cell(-1, 0)", x.cell(-1, 0), 0);
    Checks.due("9: balance(1)", x.balance(1), 1000);
    Checks.due("9: balance(2)", x.balance(2), Checks.UNKNOWN);
    Checks.due("9: balance(-1)", x.balance(-1), Checks.UNKNOWN);
  }

  private static void callRefusals() {
    CallTraces x = Checks.scene(1);
    Checks.put(x, 0, 0);
    Checks.due("10: UNKNOWN ahead of OUTSIDE", x.call(1, 4, 0, 0), Checks.UNKNOWN);
    Checks.due("10: account -1", x.call(-1, 0, 0, 1), Checks.UNKNOWN);
    Checks.due("10: member 4", x.call(0, 4, 0, 1), Checks.OUTSIDE);
    Checks.due("10: member -1", x.call(0, -1, 0, 1), Checks.OUTSIDE);
    Checks.due("10: limit 0", x.call(0, 0, 0, 0), Checks.OUTSIDE);
    Checks.due("10: limit 101", x.call(0, 0, 0, 101), Checks.OUTSIDE);
    Checks.due("10: OUTSIDE ahead of STATE", x.call(0, 1, 0, 101), Checks.OUTSIDE);
    Checks.due("10: STATE", x.call(0, 1, 0, 1), Checks.STATE);
    Checks.due("10: none was a call", x.count(3), 0);
    Checks.due("10: limit 1", x.call(0, 0, 0, 1), 0);
    Checks.due("10: limit 100", x.call(0, 0, 0, 100), 1);
    for (int i = 2; i < 8; i++) {
      Checks.due("10: call", x.call(0, 0, 0, 1), i);
    }
    Checks.due("10: FULL", x.call(0, 0, 0, 1), Checks.FULL);
    Checks.due("10: STATE ahead of FULL", x.call(0, 1, 0, 1), Checks.STATE);
    Checks.due("10: OUTSIDE ahead of FULL", x.call(0, 0, 0, 0), Checks.OUTSIDE);
    Checks.due("10: calls", x.count(3), 8);
  }

  private static void fullOfCalls() {
    CallTraces x = Checks.scene(1);
    Checks.put(x, 0, 0);
    for (int i = 0; i < 150; i++) {
      if (i % 8 == 0) {
        x.drop();
      }
      Checks.due("10: call " + i, x.call(0, 0, 0, 1), i % 8);
    }
    x.drop();
    Checks.due("10: the 151st call", x.call(0, 0, 0, 1), Checks.FULL);
    Checks.due("10: STATE ahead of FULL of calls", x.call(0, 2, 0, 1), Checks.STATE);
    Checks.due("28: calls ever", x.count(3), 150);
    Checks.due("28: traces", x.count(2), 0);
  }

  private static void drops() {
    CallTraces x = Checks.scene(1);
    Checks.put(x, 0, 0, Checks.o(Checks.PUSH, 6), Checks.o(Checks.RETURN));
    x.call(0, 0, 0, 9);
    x.call(0, 0, 0, 9);
    int length = x.write(0, 0);
    Checks.due("11: drop()", x.drop(), 2);
    Checks.due("11: drop() again", x.drop(), 0);
    Checks.due("11: trace(0, 0)", x.trace(0, 0), Checks.UNKNOWN);
    Checks.due("11: result(0)", x.result(0), Checks.UNKNOWN);
    Checks.due("11: step(0, 0, 0)", x.step(0, 0, 0), Checks.UNKNOWN);
    Checks.due("11: back(0, 0)", x.back(0, 0), Checks.UNKNOWN);
    Checks.dueText("11: OUT stays", Checks.outOf(x, length), "1 0.0:0 0 6");
    Checks.due("11: numbers begin anew", x.call(0, 0, 0, 9), 0);
    Checks.due("11: trace 1 is gone", x.trace(1, 0), Checks.UNKNOWN);
  }

  private static void states() {
    CallTraces x = new CallTraces();
    x.account();
    Checks.due("23: one account", x.state(), Checks.digest(new long[9]));
    x.fund(0, 12);
    Checks.due("23: a balance", x.state(), Checks.digest(0, 0, 0, 0, 0, 0, 0, 0, 12));
    x.account();
    x.fund(1, 3);
    Checks.put(x, 1, 0, Checks.o(Checks.PUSH, -4), Checks.o(Checks.WRITE, 2));
    x.call(1, 0, 0, 9);
    Checks.due("23: two accounts", x.state(), Checks.digest(0, 0, 0, 0, 0, 0, 0, 0, 12, 0, 0, -4, 0, 0, 0, 0, 0, 3));
  }

  private static void counts() {
    CallTraces x = Checks.scene(3);
    Checks.put(x, 0, 0);
    Checks.put(x, 0, 1);
    x.call(0, 0, 0, 1);
    x.drop();
    x.call(0, 0, 0, 1);
    Checks.due("28: programs", x.count(0), 2);
    Checks.due("28: accounts", x.count(1), 3);
    Checks.due("28: traces", x.count(2), 1);
    Checks.due("28: calls", x.count(3), 2);
    Checks.due("28: count(4)", x.count(4), Checks.OUTSIDE);
    Checks.due("28: count(-1)", x.count(-1), Checks.OUTSIDE);
  }
}
