/** Promises 1 to 11, 23 and 28: what stands around the walks, and how calls are refused. */
public final class SetupTest extends Checks {
  public static void main(String[] args) {
    newObject();
    programs();
    ops();
    accounts();
    members();
    prices();
    funds();
    cellsAndBalances();
    callRefusals();
    fullOfCalls();
    drops();
    states();
    counts();
    end();
  }

  private static void newObject() {
    CallTraces x = new CallTraces();
    for (int what = 0; what < 4; what++) {
      due("1: count(" + what + ")", x.count(what), 0);
    }
    due("1: state()", x.state(), 17);
    due("1: trace(0, 0)", x.trace(0, 0), UNKNOWN);
    due("1: balance(0)", x.balance(0), UNKNOWN);
    due("1: out(0)", x.out(0), NONE);
    due("1: drop()", x.drop(), 0);
    due("1: op(0, 0, 0, 0)", x.op(0, 0, 0, 0), UNKNOWN);
    CallTraces y = scene(1);
    due("1: another object is its own", x.count(1), 0);
    due("1: count(1)", y.count(1), 1);
  }

  private static void programs() {
    CallTraces x = new CallTraces();
    for (int i = 0; i < 8; i++) {
      due("2: program()", x.program(), i);
    }
    due("2: program() when full", x.program(), FULL);
    due("2: count(0)", x.count(0), 8);
    CallTraces y = scene(1);
    put(y, 0, 0);
    y.call(0, 0, 0, 1);
    due("2: program() while traces are kept", y.program(), 1);
  }

  private static void ops() {
    CallTraces x = new CallTraces();
    x.program();
    x.account();
    due("3: UNKNOWN ahead of OUTSIDE", x.op(1, 16, 0, 0), UNKNOWN);
    due("3: program -1", x.op(-1, 0, 0, 0), UNKNOWN);
    due("3: program 8", x.op(8, 0, 0, 0), UNKNOWN);
    due("3: kind -1", x.op(0, -1, 0, 0), OUTSIDE);
    due("3: kind 16", x.op(0, 16, 0, 0), OUTSIDE);
    due("3: kind max", x.op(0, Integer.MAX_VALUE, 0, 0), OUTSIDE);
    for (int i = 0; i < 20; i++) {
      due("3: op()", x.op(0, i % 16, Long.MIN_VALUE, Integer.MIN_VALUE), i + 1);
    }
    due("3: OUTSIDE ahead of FULL", x.op(0, 16, 0, 0), OUTSIDE);
    due("3: op() when full", x.op(0, 15, 0, 0), FULL);
    x.member(0, 0, 0);
    x.call(0, 0, 0, 1);
    due("3: STATE ahead of FULL", x.op(0, 15, 0, 0), STATE);
    due("3: OUTSIDE ahead of STATE", x.op(0, 16, 0, 0), OUTSIDE);
    due("3: UNKNOWN ahead of STATE", x.op(1, 0, 0, 0), UNKNOWN);
  }

  private static void accounts() {
    CallTraces x = new CallTraces();
    for (int i = 0; i < 6; i++) {
      due("4: account()", x.account(), i);
    }
    due("4: account() when full", x.account(), FULL);
    put(x, 0, 0);
    x.call(0, 0, 0, 1);
    due("4: STATE ahead of FULL", x.account(), STATE);
    x.drop();
    due("4: full again", x.account(), FULL);
    due("4: count(1)", x.count(1), 6);
  }

  private static void members() {
    CallTraces x = scene(2);
    x.program();
    due("5: member(0, 3, 0)", x.member(0, 3, 0), 1);
    due("5: account 2", x.member(2, 4, 0), UNKNOWN);
    due("5: account -1", x.member(-1, 0, 0), UNKNOWN);
    due("5: program 1", x.member(0, 4, 1), UNKNOWN);
    due("5: program -2", x.member(0, 0, -2), UNKNOWN);
    due("5: member 4", x.member(0, 4, 0), OUTSIDE);
    due("5: member -1", x.member(0, -1, -1), OUTSIDE);
    due("5: the refused changed nothing", x.call(0, 0, 0, 1), STATE);
    due("5: call of the member", x.call(0, 3, 0, 1), 0);
    due("5: STATE", x.member(0, 3, -1), STATE);
    due("5: OUTSIDE ahead of STATE", x.member(0, 4, -1), OUTSIDE);
    due("5: UNKNOWN ahead of STATE", x.member(0, 3, 1), UNKNOWN);
    x.drop();
    due("5: none", x.member(0, 3, -1), 1);
    due("5: call of none", x.call(0, 3, 0, 1), STATE);
    due("5: member of the other account is its own", x.call(1, 3, 0, 1), STATE);
  }

  private static void prices() {
    CallTraces x = scene(1);
    for (int kind = 0; kind < 16; kind++) {
      due("6: price at first", x.price(kind, 50), 1);
      due("6: price it was", x.price(kind, 1), 50);
    }
    due("6: kind -1", x.price(-1, 1), OUTSIDE);
    due("6: kind 16", x.price(16, 1), OUTSIDE);
    due("6: n = 0", x.price(0, 0), OUTSIDE);
    due("6: n = 51", x.price(0, 51), OUTSIDE);
    due("6: n = -5", x.price(0, -5), OUTSIDE);
    put(x, 0, 0, o(PUSH, 1), o(SELF));
    x.price(PUSH, 7);
    x.call(0, 0, 0, 100);
    due("6: price of a step", x.step(0, 0, 5), 7);
    due("6: price of the other step", x.step(0, 1, 5), 1);
    due("6: STATE", x.price(0, 1), STATE);
    due("6: OUTSIDE ahead of STATE", x.price(0, 51), OUTSIDE);
    x.drop();
    due("6: the refused changed nothing", x.price(0, 1), 7);
  }

  private static void funds() {
    CallTraces x = new CallTraces();
    x.account();
    due("7: fund", x.fund(0, 1000000000L), 0);
    due("7: above", x.fund(0, 1000000001L), OUTSIDE);
    due("7: below", x.fund(0, -1), OUTSIDE);
    due("7: wraps", x.fund(0, 1L << 32 | 5), OUTSIDE);
    due("7: UNKNOWN ahead of OUTSIDE", x.fund(1, -1), UNKNOWN);
    due("7: account -1", x.fund(-1, 5), UNKNOWN);
    due("7: what it was", x.fund(0, 0), 1000000000L);
    put(x, 0, 0);
    x.call(0, 0, 0, 1);
    due("7: while traces are kept", x.fund(0, 3), 0);
    due("7: balance", x.balance(0), 3);
  }

  private static void cellsAndBalances() {
    CallTraces x = scene(2);
    put(x, 1, 0, o(ARGUMENT), o(WRITE, 7), o(PUSH, 4), o(WRITE, 0));
    x.call(1, 0, Long.MIN_VALUE, 9);
    due("8: cell(1, 7)", x.cell(1, 7), Long.MIN_VALUE);
    due("8: cell(1, 0)", x.cell(1, 0), 4);
    due("8: cell(0, 7)", x.cell(0, 7), 0);
    due("8: cell(1, 8)", x.cell(1, 8), 0);
    due("8: cell(0, 9): the place of the next account's", x.cell(0, 9), 0);
    due("8: cell(1, -1)", x.cell(1, -1), 0);
    due("8: cell(2, 0)", x.cell(2, 0), 0);
    due("8: cell(-1, 0)", x.cell(-1, 0), 0);
    due("9: balance(1)", x.balance(1), 1000);
    due("9: balance(2)", x.balance(2), UNKNOWN);
    due("9: balance(-1)", x.balance(-1), UNKNOWN);
  }

  private static void callRefusals() {
    CallTraces x = scene(1);
    put(x, 0, 0);
    due("10: UNKNOWN ahead of OUTSIDE", x.call(1, 4, 0, 0), UNKNOWN);
    due("10: account -1", x.call(-1, 0, 0, 1), UNKNOWN);
    due("10: member 4", x.call(0, 4, 0, 1), OUTSIDE);
    due("10: member -1", x.call(0, -1, 0, 1), OUTSIDE);
    due("10: limit 0", x.call(0, 0, 0, 0), OUTSIDE);
    due("10: limit 101", x.call(0, 0, 0, 101), OUTSIDE);
    due("10: OUTSIDE ahead of STATE", x.call(0, 1, 0, 101), OUTSIDE);
    due("10: STATE", x.call(0, 1, 0, 1), STATE);
    due("10: none was a call", x.count(3), 0);
    due("10: limit 1", x.call(0, 0, 0, 1), 0);
    due("10: limit 100", x.call(0, 0, 0, 100), 1);
    for (int i = 2; i < 8; i++) {
      due("10: call", x.call(0, 0, 0, 1), i);
    }
    due("10: FULL", x.call(0, 0, 0, 1), FULL);
    due("10: STATE ahead of FULL", x.call(0, 1, 0, 1), STATE);
    due("10: OUTSIDE ahead of FULL", x.call(0, 0, 0, 0), OUTSIDE);
    due("10: calls", x.count(3), 8);
  }

  private static void fullOfCalls() {
    CallTraces x = scene(1);
    put(x, 0, 0);
    for (int i = 0; i < 150; i++) {
      if (i % 8 == 0) {
        x.drop();
      }
      due("10: call " + i, x.call(0, 0, 0, 1), i % 8);
    }
    x.drop();
    due("10: the 151st call", x.call(0, 0, 0, 1), FULL);
    due("10: STATE ahead of FULL of calls", x.call(0, 2, 0, 1), STATE);
    due("28: calls ever", x.count(3), 150);
    due("28: traces", x.count(2), 0);
  }

  private static void drops() {
    CallTraces x = scene(1);
    put(x, 0, 0, o(PUSH, 6), o(RETURN));
    x.call(0, 0, 0, 9);
    x.call(0, 0, 0, 9);
    int length = x.write(0, 0);
    due("11: drop()", x.drop(), 2);
    due("11: drop() again", x.drop(), 0);
    due("11: trace(0, 0)", x.trace(0, 0), UNKNOWN);
    due("11: result(0)", x.result(0), UNKNOWN);
    due("11: step(0, 0, 0)", x.step(0, 0, 0), UNKNOWN);
    due("11: back(0, 0)", x.back(0, 0), UNKNOWN);
    dueText("11: OUT stays", outOf(x, length), "1 0.0:0 0 6");
    due("11: numbers begin anew", x.call(0, 0, 0, 9), 0);
    due("11: trace 1 is gone", x.trace(1, 0), UNKNOWN);
  }

  private static void states() {
    CallTraces x = new CallTraces();
    x.account();
    due("23: one account", x.state(), digest(new long[9]));
    x.fund(0, 12);
    due("23: a balance", x.state(), digest(0, 0, 0, 0, 0, 0, 0, 0, 12));
    x.account();
    x.fund(1, 3);
    put(x, 1, 0, o(PUSH, -4), o(WRITE, 2));
    x.call(1, 0, 0, 9);
    due("23: two accounts", x.state(), digest(0, 0, 0, 0, 0, 0, 0, 0, 12, 0, 0, -4, 0, 0, 0, 0, 0, 3));
  }

  private static void counts() {
    CallTraces x = scene(3);
    put(x, 0, 0);
    put(x, 0, 1);
    x.call(0, 0, 0, 1);
    x.drop();
    x.call(0, 0, 0, 1);
    due("28: programs", x.count(0), 2);
    due("28: accounts", x.count(1), 3);
    due("28: traces", x.count(2), 1);
    due("28: calls", x.count(3), 2);
    due("28: count(4)", x.count(4), OUTSIDE);
    due("28: count(-1)", x.count(-1), OUTSIDE);
  }
}
