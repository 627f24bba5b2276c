import java.util.ArrayList;
import java.util.Arrays;
import java.util.LinkedHashMap;
import java.util.List;
import java.util.Map;

/** The document a second time, written plainly: failures are thrown, states are copied, each step keeps all it knows. */
final class Model {
  private record Op(int kind, long a, int b) {
  }

  private record Facts(int depth, int account, int member, int number, int kind, int price, int failure, long value) {
    long[] row() {
      return new long[] {depth, account, member, number, kind, price, failure, value};
    }
  }

  private record Told(int account, long topic, long word) {
  }

  private static final class Failure extends RuntimeException {
    private static final long serialVersionUID = 1L;
    final int kind;
    final long number;

    Failure(int kind, long number) {
      super(null, null, false, false);
      this.kind = kind;
      this.number = number;
    }
  }

  /** All that a failure undoes. */
  private static final class World {
    final List<long[]> accounts = new ArrayList<>();
    final List<Told> tells = new ArrayList<>();
    final long[] sent = new long[6];
    final long[] got = new long[6];

    World copy() {
      World other = new World();
      for (long[] account : accounts) {
        other.accounts.add(account.clone());
      }
      other.tells.addAll(tells);
      System.arraycopy(sent, 0, other.sent, 0, 6);
      System.arraycopy(got, 0, other.got, 0, 6);
      return other;
    }

    long digest() {
      long[] row = new long[accounts.size() * 9];
      for (int i = 0; i < row.length; i++) {
        row[i] = accounts.get(i / 9)[i % 9];
      }
      return Checks.digest(row);
    }
  }

  private static final class Kept {
    final List<Facts> steps = new ArrayList<>();
    final List<List<Integer>> paths = new ArrayList<>();
    final List<Long> backs = new ArrayList<>();
    final Map<Integer, int[]> touches = new LinkedHashMap<>();
    World end = new World();
    int failure;
    int number;
    int spent;
    int limit;
    int deepest;
    long result;
  }

  private final List<List<Op>> programs = new ArrayList<>();
  private final List<int[]> members = new ArrayList<>();
  private final int[] prices = new int[16];
  private final List<Kept> traces = new ArrayList<>();
  private World world = new World();
  private Kept walked;
  private String out = "";
  private int calls = 0;

  Model() {
    Arrays.fill(prices, 1);
  }

  private static boolean in(long n, long bound) {
    return 0 <= n && n < bound;
  }

  int program() {
    if (programs.size() == 8) {
      return -4;
    }
    programs.add(new ArrayList<>());
    return programs.size() - 1;
  }

  int op(int program, int kind, long a, int b) {
    if (!in(program, programs.size())) {
      return -1;
    }
    if (!in(kind, 16)) {
      return -2;
    }
    if (!traces.isEmpty()) {
      return -3;
    }
    if (programs.get(program).size() == 20) {
      return -4;
    }
    programs.get(program).add(new Op(kind, a, b));
    return programs.get(program).size();
  }

  int account() {
    if (!traces.isEmpty()) {
      return -3;
    }
    if (members.size() == 6) {
      return -4;
    }
    members.add(new int[] {-1, -1, -1, -1});
    world.accounts.add(new long[9]);
    return members.size() - 1;
  }

  int member(int account, int member, int program) {
    if (!in(account, members.size()) || !in(program + 1L, programs.size() + 1)) {
      return -1;
    }
    if (!in(member, 4)) {
      return -2;
    }
    if (!traces.isEmpty()) {
      return -3;
    }
    members.get(account)[member] = program;
    return 1;
  }

  int price(int kind, int n) {
    if (!in(kind, 16) || !in(n - 1L, 50)) {
      return -2;
    }
    if (!traces.isEmpty()) {
      return -3;
    }
    int was = prices[kind];
    prices[kind] = n;
    return was;
  }

  long fund(int account, long n) {
    if (!in(account, members.size())) {
      return -1;
    }
    if (!in(n, 1000000001L)) {
      return -2;
    }
    long was = world.accounts.get(account)[8];
    world.accounts.get(account)[8] = n;
    return was;
  }

  long cell(int account, int cell) {
    return in(account, members.size()) && in(cell, 8) ? world.accounts.get(account)[cell] : 0;
  }

  long balance(int account) {
    return in(account, members.size()) ? world.accounts.get(account)[8] : -1;
  }

  int call(int account, int member, long argument, int limit) {
    if (!in(account, members.size())) {
      return -1;
    }
    if (!in(member, 4) || !in(limit - 1L, 100)) {
      return -2;
    }
    if (members.get(account)[member] < 0) {
      return -3;
    }
    if (traces.size() == 8 || calls == 150) {
      return -4;
    }
    calls++;
    World before = world.copy();
    walked = new Kept();
    walked.limit = limit;
    world.tells.clear();
    Arrays.fill(world.sent, 0);
    Arrays.fill(world.got, 0);
    try {
      walked.result = walk(account, member, argument, -1, List.of());
      walked.end = world.copy();
      walked.backs.add(world.digest());
    } catch (Failure failure) {
      walked.failure = failure.kind;
      walked.number = (int) failure.number;
      walked.backs.add(world.digest());
      world = before;
    }
    traces.add(walked);
    return traces.size() - 1;
  }

  private long walk(int account, int member, long argument, int from, List<Integer> around) {
    List<Integer> path = new ArrayList<>(around);
    path.add(account * 4 + member);
    walked.deepest = Math.max(walked.deepest, path.size());
    List<Op> ops = programs.get(members.get(account)[member]);
    ArrayList<Long> stack = new ArrayList<>();
    int next = 0;
    while (next < ops.size()) {
      Op op = ops.get(next);
      int price = prices[op.kind];
      if (walked.spent + price > walked.limit) {
        throw new Failure(6, 0);
      }
      walked.spent += price;
      walked.backs.add(world.digest());
      walked.paths.add(path);
      int k = walked.steps.size();
      walked.steps.add(null);
      int failure = 0;
      int number = next;
      Long ended = null;
      next++;
      long given = 0;
      boolean calls = op.kind == 6 || op.kind == 7;
      try {
        if (calls) {
          given = pop(stack);
          if (!in(op.a, members.size()) || !in(op.b, 4) || members.get((int) op.a)[op.b] < 0) {
            throw new Failure(1, 0);
          }
          if (path.size() == 6) {
            throw new Failure(7, 0);
          }
        } else if (op.kind == 4) {
          if (pop(stack) != 0) {
            if (!in(op.a, ops.size())) {
              throw new Failure(2, 0);
            }
            next = (int) op.a;
          }
        } else if (op.kind == 10) {
          ended = pop(stack);
        } else {
          act(op, stack, account, argument, from);
        }
      } catch (Failure own) {
        failure = own.kind;
        throw own;
      } finally {
        long value = failure != 0 ? 0 : calls ? given : stack.isEmpty() ? 0 : stack.get(stack.size() - 1);
        walked.steps.set(k, new Facts(path.size(), account, member, number, op.kind, price, failure, value));
      }
      if (ended != null) {
        return ended;
      }
      if (calls) {
        World before = world.copy();
        try {
          push(stack, walk((int) op.a, op.b, given, account, path));
        } catch (Failure within) {
          if (op.kind == 6 || within.kind == 6) {
            throw within;
          }
          world = before;
          push(stack, -within.kind);
        }
      }
    }
    return 0;
  }

  private static long pop(ArrayList<Long> stack) {
    if (stack.isEmpty()) {
      throw new Failure(2, 0);
    }
    return stack.remove(stack.size() - 1);
  }

  private static void push(ArrayList<Long> stack, long it) {
    if (stack.size() == 12) {
      throw new Failure(2, 0);
    }
    stack.add(it);
  }

  private void touched(int account, long cell, int how) {
    walked.touches.computeIfAbsent(account * 8 + (int) cell, place -> new int[2])[how]++;
  }

  private void act(Op op, ArrayList<Long> stack, int account, long argument, int from) {
    long[] own = world.accounts.get(account);
    long a = op.a;
    switch (op.kind) {
      case 0 -> push(stack, a);
      case 1 -> {
        if (!in(a, 8)) {
          throw new Failure(2, 0);
        }
        push(stack, own[(int) a]);
        touched(account, a, 0);
      }
      case 2 -> {
        long it = pop(stack);
        if (!in(a, 8)) {
          throw new Failure(2, 0);
        }
        own[(int) a] = it;
        touched(account, a, 1);
      }
      case 3 -> {
        long y = pop(stack);
        long x = pop(stack);
        if (!in(a, 5)) {
          throw new Failure(2, 0);
        }
        if (a > 2 && y == 0) {
          throw new Failure(3, 0);
        }
        push(stack, a == 0 ? x + y : a == 1 ? x - y : a == 2 ? x * y : a == 3 ? x / y : x % y);
      }
      case 5 -> {
        long n = pop(stack);
        if (!in(a, members.size())) {
          throw new Failure(1, 0);
        }
        if (n < 0 || n > own[8]) {
          throw new Failure(4, 0);
        }
        own[8] -= n;
        world.accounts.get((int) a)[8] += n;
        world.sent[account] += n;
        world.got[(int) a] += n;
      }
      case 8 -> push(stack, argument);
      case 9 -> {
        long word = pop(stack);
        if (world.tells.size() < 40) {
          world.tells.add(new Told(account, a, word));
        }
      }
      case 11 -> throw new Failure(5, a);
      case 12 -> {
        if (!in(a, stack.size())) {
          throw new Failure(2, 0);
        }
        push(stack, stack.get(stack.size() - 1 - (int) a));
      }
      case 13 -> push(stack, account);
      case 14 -> push(stack, from);
      case 15 -> {
        if (!in(a, members.size())) {
          throw new Failure(1, 0);
        }
        push(stack, world.accounts.get((int) a)[8]);
      }
      default -> throw new IllegalStateException();
    }
  }

  int drop() {
    int were = traces.size();
    traces.clear();
    return were;
  }

  int trace(int trace, int what) {
    if (!in(trace, traces.size())) {
      return -1;
    }
    if (!in(what, 7)) {
      return -2;
    }
    Kept kept = traces.get(trace);
    return new int[] {kept.steps.size(), kept.failure, kept.number, kept.spent, kept.deepest, kept.end.tells.size(), kept.touches.size()}[what];
  }

  long result(int trace) {
    return in(trace, traces.size()) ? traces.get(trace).result : -1;
  }

  private boolean hasStep(int trace, int k) {
    return in(trace, traces.size()) && in(k, traces.get(trace).steps.size());
  }

  int step(int trace, int k, int what) {
    if (!hasStep(trace, k)) {
      return -1;
    }
    return in(what, 7) ? (int) traces.get(trace).steps.get(k).row()[what] : -2;
  }

  long value(int trace, int k) {
    return hasStep(trace, k) ? traces.get(trace).steps.get(k).value : -1;
  }

  int search(int trace, int kind, int from) {
    if (!in(trace, traces.size())) {
      return -1;
    }
    if (from < 0) {
      return -2;
    }
    for (int k = from; k < traces.get(trace).steps.size(); k++) {
      if (traces.get(trace).steps.get(k).kind == kind) {
        return k;
      }
    }
    return -5;
  }

  int flame(int trace, int account, int member, boolean with) {
    if (!in(trace, traces.size()) || !in(account, members.size())) {
      return -1;
    }
    if (!in(member, 4)) {
      return -2;
    }
    Kept kept = traces.get(trace);
    int sum = 0;
    for (int k = 0; k < kept.steps.size(); k++) {
      List<Integer> path = kept.paths.get(k);
      List<Integer> looked = with ? path : path.subList(path.size() - 1, path.size());
      sum += looked.contains(account * 4 + member) ? kept.steps.get(k).price : 0;
    }
    return sum;
  }

  int touch(int trace, int i, int what) {
    if (!in(trace, traces.size()) || !in(i, traces.get(trace).touches.size())) {
      return -1;
    }
    if (!in(what, 4)) {
      return -2;
    }
    Map<Integer, int[]> touches = traces.get(trace).touches;
    int place = new ArrayList<>(touches.keySet()).get(i);
    return new int[] {place / 8, place % 8, touches.get(place)[0], touches.get(place)[1]}[what];
  }

  long flow(int trace, int account, boolean got) {
    if (!in(trace, traces.size()) || !in(account, members.size())) {
      return -1;
    }
    World end = traces.get(trace).end;
    return (got ? end.got : end.sent)[account];
  }

  long tell(int trace, int account, int i, int what) {
    if (!in(trace, traces.size()) || !in(account, members.size())) {
      return -1;
    }
    List<Told> tells = traces.get(trace).end.tells;
    List<Integer> own = new ArrayList<>();
    for (int number = 0; number < tells.size(); number++) {
      if (tells.get(number).account == account) {
        own.add(number);
      }
    }
    if (!in(i, own.size())) {
      return -1;
    }
    return what == 0 ? tells.get(own.get(i)).topic : what == 1 ? own.get(i) : -2;
  }

  long told(int trace, int i) {
    return in(trace, traces.size()) && in(i, traces.get(trace).end.tells.size()) ? traces.get(trace).end.tells.get(i).word : -1;
  }

  long back(int trace, int k) {
    return in(trace, traces.size()) && in(k, traces.get(trace).backs.size()) ? traces.get(trace).backs.get(k) : -1;
  }

  long state() {
    return world.digest();
  }

  int compare(int one, int other) {
    if (!in(one, traces.size()) || !in(other, traces.size())) {
      return -1;
    }
    List<Facts> left = traces.get(one).steps;
    List<Facts> right = traces.get(other).steps;
    int k = 0;
    while (k < left.size() && k < right.size() && left.get(k).equals(right.get(k))) {
      k++;
    }
    return k == left.size() && k == right.size() ? -5 : k;
  }

  private static long digestOf(List<Facts> steps) {
    long[] row = new long[steps.size() * 8];
    for (int k = 0; k < steps.size(); k++) {
      System.arraycopy(steps.get(k).row(), 0, row, k * 8, 8);
    }
    return Checks.digest(row);
  }

  int halves(int one, int other) {
    if (!in(one, traces.size()) || !in(other, traces.size())) {
      return -1;
    }
    List<Facts> left = traces.get(one).steps;
    List<Facts> right = traces.get(other).steps;
    return halvesBetween(left, right, 0, Math.min(left.size(), right.size()));
  }

  private static int halvesBetween(List<Facts> left, List<Facts> right, int low, int high) {
    if (low >= high) {
      return 0;
    }
    int m = (low + high + 1) / 2;
    boolean alike = digestOf(left.subList(0, m)) == digestOf(right.subList(0, m));
    return 1 + (alike ? halvesBetween(left, right, m, high) : halvesBetween(left, right, low, m - 1));
  }

  int write(int trace, int k) {
    if (!hasStep(trace, k)) {
      return -1;
    }
    Facts s = traces.get(trace).steps.get(k);
    out = s.depth + " " + s.account + "." + s.member + ":" + s.number + " " + s.kind + " " + s.value + (s.failure == 0 ? "" : "!" + s.failure);
    return out.length();
  }

  int out(int i) {
    return in(i, out.length()) ? out.charAt(i) : -5;
  }

  int count(int what) {
    return in(what, 4) ? new int[] {programs.size(), members.size(), traces.size(), calls}[what] : -2;
  }
}
