import java.util.ArrayList;
import java.util.List;

/**
 * All that the face tells of an object, in one row, so that two objects can be held against one another.
 * Prices, programs and members are told only by changing or calling them: the object is used up by it. It takes
 * fewer than 340 calls, so that some 170 are left, of the 512, for what is done ahead of it.
 */
final class Portrait {
  private final CallTraces x;
  private final List<String> row = new ArrayList<>();

  private Portrait(CallTraces x) {
    this.x = x;
  }

  static List<String> of(CallTraces x) {
    Portrait portrait = new Portrait(x);
    portrait.counts();
    portrait.out();
    for (int trace = 0; trace < x.count(2); trace++) {
      portrait.trace(trace);
    }
    portrait.add("drop()", x.drop());
    portrait.prices();
    portrait.members();
    portrait.programs();
    portrait.add("account()", x.account());
    portrait.add("program()", x.program());
    portrait.add("state()", x.state());
    return portrait.row;
  }

  private void add(String what, long answer) {
    row.add(what + " = " + answer);
  }

  private void counts() {
    for (int what = 0; what < 4; what++) {
      add("count(" + what + ")", x.count(what));
    }
    add("state()", x.state());
  }

  private void out() {
    int at = 0;
    for (int i = 0; i < 40 && at != Checks.NONE; i++) {
      at = x.out(i);
      add("out(" + i + ")", at);
    }
  }

  private void trace(int trace) {
    for (int what = 0; what < 7; what++) {
      add("trace(" + trace + ", " + what + ")", x.trace(trace, what));
    }
    int steps = x.trace(trace, 0);
    add("result(" + trace + ")", x.result(trace));
    add("value(" + trace + ", the last)", x.value(trace, steps - 1));
    add("step(" + trace + ", the last, 3)", x.step(trace, steps - 1, 3));
    add("back(" + trace + ", 0)", x.back(trace, 0));
    add("back(" + trace + ", " + steps + ")", x.back(trace, steps));
    add("flow(" + trace + ", 0, false)", x.flow(trace, 0, false));
    add("touch(" + trace + ", 0, 3)", x.touch(trace, 0, 3));
    add("told(" + trace + ", 0)", x.told(trace, 0));
  }

  private void prices() {
    for (int kind = 0; kind < 16; kind++) {
      add("price(" + kind + ", 1)", x.price(kind, 1));
    }
  }

  private void members() {
    int accounts = x.count(1);
    for (int i = 0; i < accounts * 4; i++) {
      int trace = x.call(i / 4, i % 4, 1, 100);
      add("call(" + i / 4 + ", " + i % 4 + ", 1, 100)", trace);
      if (trace >= 0) {
        add("its steps", x.trace(trace, 0));
        add("its result", x.result(trace));
        add("the state behind it", x.back(trace, x.trace(trace, 0)));
        x.drop();
      }
    }
  }

  private void programs() {
    int programs = x.count(0);
    for (int program = 0; program < programs; program++) {
      add("op(" + program + ", 13, 0, 0)", x.op(program, Checks.SELF, 0, 0));
    }
  }
}
