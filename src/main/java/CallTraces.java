import java.util.Arrays;

public final class CallTraces {
    public static final int UNKNOWN = -1, OUTSIDE = -2, STATE = -3, FULL = -4, NONE = -5;

    private static final int MOST_PROGRAMS = 8;
    private static final int MOST_OPS = 20;
    private static final int MOST_ACCOUNTS = 6;
    private static final int CELLS = 8;
    private static final int MEMBERS = 4;
    private static final int KINDS = 16;
    private static final int MATHS = 5;
    private static final int MOST_PRICE = 50;
    private static final long MOST_FUNDS = 1000000000L;
    private static final int MOST_LIMIT = 100;
    // Every price is 1 at least, so a call has no more steps than its limit.
    private static final int MOST_STEPS = MOST_LIMIT;
    private static final int MOST_TRACES = 8;
    private static final int MOST_CALLS = 150;
    private static final int MOST_FRAMES = 6;
    private static final int MOST_ON_STACK = 12;
    private static final int MOST_TELLS = 40;
    private static final int MOST_OUT = 64;
    private static final int MOST_DIGITS = 19;
    private static final int COUNTS_OF_TRACE = 7;
    private static final int NO_PROGRAM = -1;
    private static final int NO_CALLER = -1;
    private static final int NEVER = -1;

    // An account's longs stand in the order of the digest: its cells, then its balance.
    private static final int PLACES = CELLS + 1;
    private static final int STATE_LONGS = MOST_ACCOUNTS * PLACES;
    private static final int SENT = STATE_LONGS;
    private static final int GOT = SENT + MOST_ACCOUNTS;
    private static final int WORK_LONGS = GOT + MOST_ACCOUNTS;

    private static final int PUSH = 0, READ = 1, WRITE = 2, MATH = 3, JUMP = 4, SEND = 5, CALL = 6, TRY = 7;
    private static final int ARGUMENT = 8, TELL = 9, RETURN = 10, FAIL = 11, COPY = 12, SELF = 13, FROM = 14, FUNDS = 15;
    private static final int[] POPS = {0, 0, 1, 2, 1, 1, 1, 1, 0, 1, 1, 0, 0, 0, 0, 0};

    private static final int FINE = 0, NOTHING = 1, INDEX = 2, ZERO = 3, LACK = 4, OWN = 5, SPENT = 6, DEEP = 7;
    // No failure of the document: a walk anew stops with it ahead of the step that was asked for.
    private static final int HALTED = 8;

    private static final int DEPTH_FACT = 0, ACCOUNT_FACT = 1, MEMBER_FACT = 2, OP_FACT = 3;
    private static final int KIND_FACT = 4, PRICE_FACT = 5, FAILURE_FACT = 6, FACTS = 7;

    private static final long DIGEST_START = 17L;
    private static final long DIGEST_FACTOR = 0x9E3779B97F4A7C15L;

    private final Walker walker = new Walker();
    private final Contracts contracts = walker.contracts;
    private final long[] now = new long[STATE_LONGS];
    private final Trace[] traces = new Trace[MOST_TRACES];
    private final Line line = new Line();
    private int traceCount = 0;
    private int callCount = 0;

    public CallTraces() {
        for (int i = 0; i < MOST_TRACES; i++) {
            traces[i] = new Trace();
        }
    }

    public int program() {
        if (contracts.programCount >= MOST_PROGRAMS) {
            return FULL;
        }
        contracts.programCount++;
        return contracts.programCount - 1;
    }

    public int op(int program, int kind, long a, int b) {
        if (!contracts.hasProgram(program)) {
            return UNKNOWN;
        }
        if (!isWithin(kind, KINDS)) {
            return OUTSIDE;
        }
        if (traceCount > 0) {
            return STATE;
        }
        Program grown = contracts.programs[program];
        return grown.add(kind, a, b) ? grown.size : FULL;
    }

    public int account() {
        if (traceCount > 0) {
            return STATE;
        }
        if (contracts.accountCount >= MOST_ACCOUNTS) {
            return FULL;
        }
        contracts.accountCount++;
        return contracts.accountCount - 1;
    }

    public int member(int account, int member, int program) {
        if (!contracts.hasAccount(account)) {
            return UNKNOWN;
        }
        if (program != NO_PROGRAM && !contracts.hasProgram(program)) {
            return UNKNOWN;
        }
        if (!isWithin(member, MEMBERS)) {
            return OUTSIDE;
        }
        if (traceCount > 0) {
            return STATE;
        }
        contracts.members[account * MEMBERS + member] = program;
        return 1;
    }

    public int price(int kind, int n) {
        if (!isWithin(kind, KINDS) || n < 1 || n > MOST_PRICE) {
            return OUTSIDE;
        }
        if (traceCount > 0) {
            return STATE;
        }
        int before = contracts.prices[kind];
        contracts.prices[kind] = n;
        return before;
    }

    public long fund(int account, long n) {
        if (!contracts.hasAccount(account)) {
            return UNKNOWN;
        }
        if (n < 0 || n > MOST_FUNDS) {
            return OUTSIDE;
        }
        long before = now[balancePlace(account)];
        now[balancePlace(account)] = n;
        return before;
    }

    public long cell(int account, int cell) {
        if (!contracts.hasAccount(account) || !isWithin(cell, CELLS)) {
            return 0;
        }
        return now[cellPlace(account, cell)];
    }

    public long balance(int account) {
        if (!contracts.hasAccount(account)) {
            return UNKNOWN;
        }
        return now[balancePlace(account)];
    }

    public int call(int account, int member, long argument, int limit) {
        if (!contracts.hasAccount(account)) {
            return UNKNOWN;
        }
        if (!isWithin(member, MEMBERS) || limit < 1 || limit > MOST_LIMIT) {
            return OUTSIDE;
        }
        if (contracts.programOf(account, member) == NO_PROGRAM) {
            return STATE;
        }
        if (traceCount >= MOST_TRACES || callCount >= MOST_CALLS) {
            return FULL;
        }
        Trace made = traces[traceCount];
        made.ask(account, member, argument, limit, now);
        walker.walk(made, NEVER);
        if (made.failure == FINE) {
            System.arraycopy(walker.work, 0, now, 0, STATE_LONGS);
        }
        callCount++;
        traceCount++;
        return traceCount - 1;
    }

    public int drop() {
        int before = traceCount;
        traceCount = 0;
        return before;
    }

    public int trace(int trace, int what) {
        if (!isKept(trace)) {
            return UNKNOWN;
        }
        if (!isWithin(what, COUNTS_OF_TRACE)) {
            return OUTSIDE;
        }
        return traces[trace].amount(what);
    }

    public long result(int trace) {
        return isKept(trace) ? traces[trace].result : UNKNOWN;
    }

    public int step(int trace, int k, int what) {
        if (!hasStep(trace, k)) {
            return UNKNOWN;
        }
        if (!isWithin(what, FACTS)) {
            return OUTSIDE;
        }
        return traces[trace].facts[what][k];
    }

    public long value(int trace, int k) {
        return hasStep(trace, k) ? traces[trace].values[k] : UNKNOWN;
    }

    public int search(int trace, int kind, int from) {
        if (!isKept(trace)) {
            return UNKNOWN;
        }
        if (from < 0) {
            return OUTSIDE;
        }
        return traces[trace].firstOfKind(kind, from);
    }

    public int flame(int trace, int account, int member, boolean with) {
        if (!isKept(trace) || !contracts.hasAccount(account)) {
            return UNKNOWN;
        }
        if (!isWithin(member, MEMBERS)) {
            return OUTSIDE;
        }
        return traces[trace].pricesOf(account, member, with);
    }

    public int touch(int trace, int i, int what) {
        if (!isKept(trace) || !isWithin(i, traces[trace].touches.count)) {
            return UNKNOWN;
        }
        Touches touches = traces[trace].touches;
        int place = touches.places[i];
        switch (what) {
            case 0: return place / CELLS;
            case 1: return place % CELLS;
            case 2: return touches.reads[place];
            case 3: return touches.writes[place];
            default: return OUTSIDE;
        }
    }

    public long flow(int trace, int account, boolean got) {
        if (!isKept(trace) || !contracts.hasAccount(account)) {
            return UNKNOWN;
        }
        return got ? traces[trace].got[account] : traces[trace].sent[account];
    }

    public long tell(int trace, int account, int i, int what) {
        if (!isKept(trace) || !contracts.hasAccount(account)) {
            return UNKNOWN;
        }
        Tells tells = traces[trace].tells;
        int number = tells.numberOf(account, i);
        if (number == NONE) {
            return UNKNOWN;
        }
        switch (what) {
            case 0: return tells.topics[number];
            case 1: return number;
            default: return OUTSIDE;
        }
    }

    public long told(int trace, int i) {
        if (!isKept(trace) || !isWithin(i, traces[trace].tells.count)) {
            return UNKNOWN;
        }
        return traces[trace].tells.words[i];
    }

    public long back(int trace, int k) {
        if (!isKept(trace) || k < 0 || k > traces[trace].steps) {
            return UNKNOWN;
        }
        walker.spare.askAgain(traces[trace]);
        walker.walk(walker.spare, k);
        return digestOfState(walker.work);
    }

    public long state() {
        return digestOfState(now);
    }

    public int compare(int one, int other) {
        if (!isKept(one) || !isKept(other)) {
            return UNKNOWN;
        }
        return traces[one].firstUnlike(traces[other]);
    }

    public int halves(int one, int other) {
        if (!isKept(one) || !isKept(other)) {
            return UNKNOWN;
        }
        int low = 0;
        int high = Math.min(traces[one].steps, traces[other].steps);
        int held = 0;
        // Each round takes a step from between low and high, so there are no more rounds than steps.
        for (int round = 0; round < MOST_STEPS && low < high; round++) {
            int middle = (low + high + 1) / 2;
            held++;
            if (traces[one].digestOfFirst(middle) == traces[other].digestOfFirst(middle)) {
                low = middle;
            } else {
                high = middle - 1;
            }
        }
        return held;
    }

    public int write(int trace, int k) {
        if (!hasStep(trace, k)) {
            return UNKNOWN;
        }
        line.writeStep(traces[trace], k);
        return line.length;
    }

    public int out(int i) {
        return isWithin(i, line.length) ? line.bytes[i] : NONE;
    }

    public int count(int what) {
        switch (what) {
            case 0: return contracts.programCount;
            case 1: return contracts.accountCount;
            case 2: return traceCount;
            case 3: return callCount;
            default: return OUTSIDE;
        }
    }

    private boolean isKept(int trace) {
        return isWithin(trace, traceCount);
    }

    private boolean hasStep(int trace, int k) {
        return isKept(trace) && isWithin(k, traces[trace].steps);
    }

    private long digestOfState(long[] row) {
        int longs = Math.min(contracts.accountCount * PLACES, row.length);
        long h = DIGEST_START;
        for (int i = 0; i < longs; i++) {
            h = digestWith(h, row[i]);
        }
        return h;
    }

    private static long digestWith(long h, long it) {
        long mixed = (h ^ it) * DIGEST_FACTOR;
        return mixed ^ (mixed >>> 29);
    }

    // The numbers of ops are longs: they are looked at whole, ahead of any cast to int.
    private static boolean isWithin(long n, int bound) {
        return n >= 0 && n < bound;
    }

    private static int cellPlace(int account, int cell) {
        return account * PLACES + cell;
    }

    private static int balancePlace(int account) {
        return account * PLACES + CELLS;
    }

    private static final class Program {
        final int[] kinds = new int[MOST_OPS];
        final long[] as = new long[MOST_OPS];
        final int[] bs = new int[MOST_OPS];
        int size = 0;

        boolean add(int kind, long a, int b) {
            if (size >= MOST_OPS) {
                return false;
            }
            kinds[size] = kind;
            as[size] = a;
            bs[size] = b;
            size++;
            return true;
        }
    }

    /** What no walk changes, so that a call walked anew finds it as it was. */
    private static final class Contracts {
        final Program[] programs = new Program[MOST_PROGRAMS];
        final int[] members = new int[MOST_ACCOUNTS * MEMBERS];
        final int[] prices = new int[KINDS];
        int programCount = 0;
        int accountCount = 0;

        Contracts() {
            for (int i = 0; i < MOST_PROGRAMS; i++) {
                programs[i] = new Program();
            }
            Arrays.fill(members, NO_PROGRAM);
            Arrays.fill(prices, 1);
        }

        boolean hasProgram(int program) {
            return isWithin(program, programCount);
        }

        boolean hasAccount(long account) {
            return account >= 0 && account < accountCount;
        }

        int programOf(long account, int member) {
            if (account < 0 || account >= accountCount || member < 0 || member >= MEMBERS) {
                return NO_PROGRAM;
            }
            return members[(int) account * MEMBERS + member];
        }
    }

    private static final class Touches {
        final int[] places = new int[MOST_ACCOUNTS * CELLS];
        final int[] reads = new int[MOST_ACCOUNTS * CELLS];
        final int[] writes = new int[MOST_ACCOUNTS * CELLS];
        int count = 0;

        void clear() {
            Arrays.fill(reads, 0);
            Arrays.fill(writes, 0);
            count = 0;
        }

        void add(int account, int cell, boolean isWrite) {
            int place = account * CELLS + cell;
            if (!isWithin(place, places.length)) {
                return;
            }
            if (reads[place] == 0 && writes[place] == 0 && count < places.length) {
                places[count] = place;
                count++;
            }
            if (isWrite) {
                writes[place]++;
            } else {
                reads[place]++;
            }
        }
    }

    private static final class Tells {
        final int[] accounts = new int[MOST_TELLS];
        final long[] topics = new long[MOST_TELLS];
        final long[] words = new long[MOST_TELLS];
        int count = 0;

        void add(int account, long topic, long word) {
            if (count >= MOST_TELLS) {
                return;
            }
            accounts[count] = account;
            topics[count] = topic;
            words[count] = word;
            count++;
        }

        int numberOf(int account, int i) {
            int seen = 0;
            for (int number = 0; number < count; number++) {
                if (accounts[number] == account) {
                    if (seen == i) {
                        return number;
                    }
                    seen++;
                }
            }
            return NONE;
        }
    }

    private static final class Trace {
        int account = 0;
        int member = 0;
        long argument = 0;
        int limit = 0;
        final long[] start = new long[STATE_LONGS];
        final int[][] facts = new int[FACTS][MOST_STEPS];
        final long[] values = new long[MOST_STEPS];
        int steps = 0;
        int spent = 0;
        int deepest = 0;
        int failure = FINE;
        int ownNumber = 0;
        long result = 0;
        final Touches touches = new Touches();
        final Tells tells = new Tells();
        final long[] sent = new long[MOST_ACCOUNTS];
        final long[] got = new long[MOST_ACCOUNTS];

        void ask(int ofAccount, int ofMember, long with, int most, long[] from) {
            account = ofAccount;
            member = ofMember;
            argument = with;
            limit = most;
            System.arraycopy(from, 0, start, 0, STATE_LONGS);
            steps = 0;
            spent = 0;
            deepest = 0;
            touches.clear();
            tells.count = 0;
        }

        void askAgain(Trace other) {
            ask(other.account, other.member, other.argument, other.limit, other.start);
        }

        void endWell(long with, long[] work) {
            failure = FINE;
            ownNumber = 0;
            result = with;
            System.arraycopy(work, SENT, sent, 0, MOST_ACCOUNTS);
            System.arraycopy(work, GOT, got, 0, MOST_ACCOUNTS);
        }

        void endBadly(int with, long number) {
            failure = with;
            ownNumber = with == OWN ? (int) number : 0;
            result = 0;
            tells.count = 0;
            Arrays.fill(sent, 0L);
            Arrays.fill(got, 0L);
        }

        boolean canPay(int price) {
            return steps < MOST_STEPS && spent + price <= limit;
        }

        void beginStep(Frame frame, int depth, int kind, int price) {
            if (steps >= MOST_STEPS) {
                return;
            }
            facts[DEPTH_FACT][steps] = depth;
            facts[ACCOUNT_FACT][steps] = frame.account;
            facts[MEMBER_FACT][steps] = frame.member;
            facts[OP_FACT][steps] = frame.next;
            facts[KIND_FACT][steps] = kind;
            facts[PRICE_FACT][steps] = price;
            steps++;
            spent += price;
        }

        void endStep(int with, long top) {
            if (steps < 1) {
                return;
            }
            facts[FAILURE_FACT][steps - 1] = with;
            values[steps - 1] = with == FINE ? top : 0;
        }

        int amount(int what) {
            switch (what) {
                case 0: return steps;
                case 1: return failure;
                case 2: return ownNumber;
                case 3: return spent;
                case 4: return deepest;
                case 5: return tells.count;
                case 6: return touches.count;
                default: return OUTSIDE;
            }
        }

        int firstOfKind(int kind, int from) {
            if (from < 0) {
                return NONE;
            }
            for (int k = from; k < steps; k++) {
                if (facts[KIND_FACT][k] == kind) {
                    return k;
                }
            }
            return NONE;
        }

        int pricesOf(int ofAccount, int ofMember, boolean with) {
            // The depth of the outermost frame of the member that is open (0: none): what is deeper is within
            // it, for a frame is only left and another one begun by way of a step that is less deep.
            int outermost = 0;
            int sum = 0;
            for (int k = 0; k < steps; k++) {
                int depth = facts[DEPTH_FACT][k];
                boolean own = facts[ACCOUNT_FACT][k] == ofAccount && facts[MEMBER_FACT][k] == ofMember;
                if (outermost == 0 || depth <= outermost) {
                    outermost = own ? depth : 0;
                }
                if (own || with && outermost > 0) {
                    sum += facts[PRICE_FACT][k];
                }
            }
            return sum;
        }

        int firstUnlike(Trace other) {
            int both = Math.min(steps, other.steps);
            for (int k = 0; k < both; k++) {
                if (!isLike(other, k)) {
                    return k;
                }
            }
            return steps == other.steps ? NONE : both;
        }

        private boolean isLike(Trace other, int k) {
            for (int what = 0; what < FACTS; what++) {
                if (facts[what][k] != other.facts[what][k]) {
                    return false;
                }
            }
            return values[k] == other.values[k];
        }

        long digestOfFirst(int m) {
            int first = Math.min(m, steps);
            long h = DIGEST_START;
            for (int k = 0; k < first; k++) {
                for (int what = 0; what < FACTS; what++) {
                    h = digestWith(h, facts[what][k]);
                }
                h = digestWith(h, values[k]);
            }
            return h;
        }
    }

    private static final class Frame {
        final long[] stack = new long[MOST_ON_STACK];
        int height = 0;
        int account = 0;
        int member = 0;
        int from = NO_CALLER;
        long argument = 0;
        int next = 0;
        long result = 0;

        void open(int ofAccount, int ofMember, long with, int caller) {
            height = 0;
            account = ofAccount;
            member = ofMember;
            from = caller;
            argument = with;
            next = 0;
            result = 0;
        }

        int push(long it) {
            if (height >= MOST_ON_STACK) {
                return INDEX;
            }
            stack[height] = it;
            height++;
            return FINE;
        }

        long pop() {
            if (height < 1) {
                return 0;
            }
            height--;
            return stack[height];
        }

        long top() {
            return height < 1 ? 0 : stack[height - 1];
        }

        int pushCopy(long below) {
            if (!isWithin(below, height)) {
                return INDEX;
            }
            return push(stack[height - 1 - (int) below]);
        }

        int pushMath(long which) {
            long y = pop();
            long x = pop();
            if (!isWithin(which, MATHS)) {
                return INDEX;
            }
            switch ((int) which) {
                case 0: return push(x + y);
                case 1: return push(x - y);
                case 2: return push(x * y);
                case 3: return y == 0 ? ZERO : push(x / y);
                default: return y == 0 ? ZERO : push(x % y);
            }
        }

        int jump(long to, int size) {
            if (pop() == 0) {
                return FINE;
            }
            if (!isWithin(to, size)) {
                return INDEX;
            }
            next = (int) to;
            return FINE;
        }

        int end(int size) {
            result = pop();
            next = size;
            return FINE;
        }
    }

    /** Walks on rows of its own, so that a walk that fails or is walked anew leaves the state alone. */
    private static final class Walker {
        final Contracts contracts = new Contracts();
        // The state, then what was sent and got: whatever a failure undoes but for the tells.
        final long[] work = new long[WORK_LONGS];
        final long[][] saved = new long[MOST_FRAMES][WORK_LONGS];
        final int[] savedTells = new int[MOST_FRAMES];
        final Frame[] frames = new Frame[MOST_FRAMES];
        // Takes the steps of walks anew, so that no trace that is kept is written over.
        final Trace spare = new Trace();
        Trace trace = spare;
        int haltAt = NEVER;
        long ownNumber = 0;

        Walker() {
            for (int i = 0; i < MOST_FRAMES; i++) {
                frames[i] = new Frame();
            }
        }

        void walk(Trace asked, int halt) {
            trace = asked;
            haltAt = halt;
            Arrays.fill(work, 0L);
            System.arraycopy(asked.start, 0, work, 0, STATE_LONGS);
            frames[0].open(asked.account, asked.member, asked.argument, NO_CALLER);
            int failure = walkFrame(0);
            if (failure == FINE) {
                asked.endWell(frames[0].result, work);
            } else {
                asked.endBadly(failure, ownNumber);
            }
        }

        private int walkFrame(int level) {
            if (!isWithin(level, MOST_FRAMES)) {
                return DEEP;
            }
            Frame frame = frames[level];
            int number = contracts.programOf(frame.account, frame.member);
            if (!contracts.hasProgram(number)) {
                return NOTHING;
            }
            Program program = contracts.programs[number];
            trace.deepest = Math.max(trace.deepest, level + 1);
            // One turn more than there can be steps: the last one finds the limit spent.
            for (int turn = 0; turn <= MOST_STEPS && frame.next < program.size; turn++) {
                int failure = walkOp(frame, program, level);
                if (failure != FINE) {
                    return failure;
                }
            }
            return FINE;
        }

        private int walkOp(Frame frame, Program program, int level) {
            int at = frame.next;
            int kind = program.kinds[at];
            int price = contracts.prices[kind];
            if (trace.steps == haltAt) {
                return HALTED;
            }
            if (!trace.canPay(price)) {
                return SPENT;
            }
            trace.beginStep(frame, level + 1, kind, price);
            frame.next = at + 1;
            if (kind == CALL || kind == TRY) {
                return walkWithin(level, kind == TRY, program.as[at], program.bs[at]);
            }
            int failure = frame.height < POPS[kind] ? INDEX : act(frame, program, kind, program.as[at]);
            trace.endStep(failure, frame.top());
            return failure;
        }

        private int walkWithin(int level, boolean isTry, long account, int member) {
            Frame frame = frames[level];
            int own = lookWithin(level, account, member);
            long argument = frame.pop();
            trace.endStep(own, argument);
            if (own != FINE) {
                return own;
            }
            Frame inner = frames[level + 1];
            inner.open((int) account, member, argument, frame.account);
            if (isTry) {
                save(level);
            }
            int failure = walkFrame(level + 1);
            if (failure == FINE) {
                return frame.push(inner.result);
            }
            if (!isTry || failure == SPENT || failure == HALTED) {
                return failure;
            }
            undo(level);
            return frame.push(-failure);
        }

        private int lookWithin(int level, long account, int member) {
            if (frames[level].height < POPS[CALL]) {
                return INDEX;
            }
            if (contracts.programOf(account, member) == NO_PROGRAM) {
                return NOTHING;
            }
            return level + 1 >= MOST_FRAMES ? DEEP : FINE;
        }

        private void save(int level) {
            System.arraycopy(work, 0, saved[level], 0, WORK_LONGS);
            savedTells[level] = trace.tells.count;
        }

        private void undo(int level) {
            System.arraycopy(saved[level], 0, work, 0, WORK_LONGS);
            trace.tells.count = savedTells[level];
        }

        private int act(Frame frame, Program program, int kind, long a) {
            switch (kind) {
                case PUSH: return frame.push(a);
                case READ: return readCell(frame, a);
                case WRITE: return writeCell(frame, a);
                case MATH: return frame.pushMath(a);
                case JUMP: return frame.jump(a, program.size);
                case SEND: return send(frame, a);
                case ARGUMENT: return frame.push(frame.argument);
                case TELL: return addTell(frame, a);
                case RETURN: return frame.end(program.size);
                case FAIL: return failWith(a);
                case COPY: return frame.pushCopy(a);
                case SELF: return frame.push(frame.account);
                case FROM: return frame.push(frame.from);
                case FUNDS: return pushFunds(frame, a);
                default: return NOTHING;
            }
        }

        private int readCell(Frame frame, long a) {
            if (!isWithin(a, CELLS)) {
                return INDEX;
            }
            int cell = (int) a;
            int failure = frame.push(work[cellPlace(frame.account, cell)]);
            if (failure == FINE) {
                trace.touches.add(frame.account, cell, false);
            }
            return failure;
        }

        private int writeCell(Frame frame, long a) {
            long it = frame.pop();
            if (!isWithin(a, CELLS)) {
                return INDEX;
            }
            int cell = (int) a;
            work[cellPlace(frame.account, cell)] = it;
            trace.touches.add(frame.account, cell, true);
            return FINE;
        }

        private int send(Frame frame, long a) {
            long n = frame.pop();
            if (!contracts.hasAccount(a)) {
                return NOTHING;
            }
            int to = (int) a;
            if (n < 0 || n > work[balancePlace(frame.account)]) {
                return LACK;
            }
            work[balancePlace(frame.account)] -= n;
            work[balancePlace(to)] += n;
            work[SENT + frame.account] += n;
            work[GOT + to] += n;
            return FINE;
        }

        private int addTell(Frame frame, long topic) {
            trace.tells.add(frame.account, topic, frame.pop());
            return FINE;
        }

        private int failWith(long number) {
            ownNumber = number;
            return OWN;
        }

        private int pushFunds(Frame frame, long a) {
            if (!contracts.hasAccount(a)) {
                return NOTHING;
            }
            return frame.push(work[balancePlace((int) a)]);
        }
    }

    private static final class Line {
        final byte[] bytes = new byte[MOST_OUT];
        final int[] figures = new int[MOST_DIGITS];
        int length = 0;

        void writeStep(Trace trace, int k) {
            int failure = trace.facts[FAILURE_FACT][k];
            length = 0;
            addNumber(trace.facts[DEPTH_FACT][k]);
            addSign(' ');
            addNumber(trace.facts[ACCOUNT_FACT][k]);
            addSign('.');
            addNumber(trace.facts[MEMBER_FACT][k]);
            addSign(':');
            addNumber(trace.facts[OP_FACT][k]);
            addSign(' ');
            addNumber(trace.facts[KIND_FACT][k]);
            addSign(' ');
            addNumber(trace.values[k]);
            if (failure != FINE) {
                addSign('!');
                addNumber(failure);
            }
        }

        private void addSign(int sign) {
            if (length < MOST_OUT) {
                bytes[length] = (byte) sign;
                length++;
            }
        }

        private void addNumber(long n) {
            if (n < 0) {
                addSign('-');
            }
            // Below 0 there is one number more than above it: the least long has no other twin.
            long rest = n < 0 ? n : -n;
            int digits = 0;
            do {
                figures[digits] = '0' - (int) (rest % 10);
                rest /= 10;
                digits++;
            } while (rest != 0 && digits < MOST_DIGITS);
            for (int i = digits - 1; i >= 0; i--) {
                addSign(figures[i]);
            }
        }
    }
}
