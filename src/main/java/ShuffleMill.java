import java.util.Arrays;

/**
 * A cluster that maps, combines and reduces records by programs that are given to it, job behind job.
 *
 * <p>All rows are made by the constructor and used again: no call makes an object, but an exception.
 */
public final class ShuffleMill {
    private static final int FILES = 16;
    private static final int RECORDS = 300;
    private static final int INSTRUCTIONS = 40;
    private static final int JOBS = 8;
    private static final int WORKERS = 6;
    private static final int MASTER = 6;
    private static final int NODES = 7;
    private static final int PARTS = 6;
    private static final int SPLIT = 16;
    /** Two full FILES, 600 RECORDS, cut by 16. */
    private static final int SPLITS = 38;
    /** Tasks 0 to 37 map a SPLIT each, tasks 38 to 43 reduce a PART each. */
    private static final int TASKS = 44;
    private static final int PAIRS = 1000;
    private static final int EMITS = 4;
    private static final int CELLS = 4;
    private static final int TICKS = 200;
    private static final int NONE = -1;

    private static final int MAP = 0;
    private static final int COMBINE = 1;
    private static final int REDUCE = 2;

    private static final int LAST_OP = 18;

    /** How many ticks of its own a node waits for an answer before it asks again. */
    private static final int PATIENCE = 4;

    /** Far above the some two thousand rounds that the longest JOB needs, eight times over. */
    private static final int ROUNDS = 1000000;

    private final Store store = new Store();
    private final Program draft = new Program();
    private final Line wire = new Line();
    private final Journal journal = new Journal();
    private final Worker[] workers = new Worker[WORKERS];
    private final Master master = new Master(store, wire, journal);
    private boolean running;
    private int runs;

    public ShuffleMill() {
        for (int w = 0; w < WORKERS; w++) {
            workers[w] = new Worker(w, store, wire);
        }
    }

    public int record(int f, long key, long value) throws IndexOutOfBoundsException, IllegalStateException {
        needFile(f);
        needRest();
        Pairs file = store.file(f);
        if (!file.add(key, value)) {
            throw new IllegalStateException("the FILE is full");
        }
        return file.length();
    }

    public int clear(int f) throws IndexOutOfBoundsException, IllegalStateException {
        needFile(f);
        needRest();
        Pairs file = store.file(f);
        int had = file.length();
        file.empty();
        return had;
    }

    public int code(int op, long a) throws IllegalArgumentException, IllegalStateException {
        if (op < 0 || op > LAST_OP) {
            throw new IllegalArgumentException("no such INSTRUCTION");
        }
        if (Program.usesCell(op) && (a < 0 || a >= CELLS)) {
            throw new IllegalArgumentException("no such CELL");
        }
        if (Program.leaps(op) && (a < 0 || a > INSTRUCTIONS)) {
            throw new IllegalArgumentException("no PROGRAM is so long");
        }
        needRest();
        if (!draft.add(op, a)) {
            throw new IllegalStateException("the PROGRAM is full");
        }
        return draft.length();
    }

    public int program(int j, int what)
            throws IndexOutOfBoundsException, IllegalArgumentException, IllegalStateException {
        needJobNumber(j);
        if (what < MAP || what > REDUCE) {
            throw new IllegalArgumentException("neither MAP, COMBINE nor REDUCE");
        }
        if (what != COMBINE && draft.length() == 0) {
            throw new IllegalArgumentException("the PROGRAM is empty");
        }
        if (draft.leapsBehindEnd()) {
            throw new IllegalArgumentException("the PROGRAM goes behind its end");
        }
        needRest();
        Program target = store.jobNumbered(j).programFor(what);
        target.take(draft);
        draft.empty();
        return target.length();
    }

    public void job(int j, int a, int b, int output, int parts)
            throws IndexOutOfBoundsException, IllegalArgumentException, IllegalStateException {
        needJobNumber(j);
        if (!isFile(a) || !isFile(output) || (b != NONE && !isFile(b))) {
            throw new IllegalArgumentException("no such FILE");
        }
        if (parts < 1 || parts > PARTS) {
            throw new IllegalArgumentException("no such number of PARTS");
        }
        needRest();
        Job made = store.jobNumbered(j);
        if (made.programFor(MAP).length() == 0 || made.programFor(REDUCE).length() == 0) {
            throw new IllegalStateException("a MAP or a REDUCE is missing");
        }
        made.make(a, b, output, parts);
    }

    public boolean drop(int j) throws IndexOutOfBoundsException, IllegalStateException {
        needJobNumber(j);
        needRest();
        return store.jobNumbered(j).unmake();
    }

    public int begin() throws IllegalStateException, UnsupportedOperationException {
        needRest();
        if (!store.plan()) {
            throw new UnsupportedOperationException("THE CHAIN can not be run");
        }
        wire.reset();
        journal.empty();
        for (int w = 0; w < WORKERS; w++) {
            workers[w].reset();
        }
        master.recall();
        running = true;
        runs++;
        return store.chained();
    }

    public void tick(int w, int n)
            throws IndexOutOfBoundsException, IllegalArgumentException, IllegalStateException {
        needNode(w);
        if (n < 1 || n > TICKS) {
            throw new IllegalArgumentException("no such number of ticks");
        }
        needRun();
        for (int i = 0; i < n; i++) {
            if (w == MASTER) {
                master.work();
            } else {
                workers[w].work();
            }
        }
    }

    public void crash(int w) throws IndexOutOfBoundsException, IllegalStateException {
        needNode(w);
        needRun();
        wire.cut(w);
        if (w == MASTER) {
            master.forget();
        } else {
            workers[w].forget();
        }
    }

    public void line(int lost, int twice) throws IllegalStateException {
        needRun();
        wire.disturb(lost, twice);
    }

    public int finish() throws IllegalStateException {
        needRun();
        wire.disturb(0, 0);
        for (int round = 0; round < ROUNDS && !master.isOver(); round++) {
            for (int w = 0; w < WORKERS; w++) {
                workers[w].work();
            }
            master.work();
        }
        running = false;
        return master.failedJob();
    }

    public long told(int f, int i, boolean value) throws IndexOutOfBoundsException, IllegalStateException {
        needFile(f);
        needRest();
        Pairs file = store.file(f);
        if (i < 0 || i >= file.length()) {
            throw new IndexOutOfBoundsException("no such RECORD");
        }
        return value ? file.value(i) : file.key(i);
    }

    public int size(int f) throws IndexOutOfBoundsException, IllegalStateException {
        needFile(f);
        needRest();
        return store.file(f).length();
    }

    public int count(int what) throws IllegalArgumentException {
        switch (what) {
            case 0:
                return running ? 1 : 0;
            case 1:
                return store.madeJobs();
            case 2:
                return draft.length();
            case 3:
                return runs;
            default:
                return countOfJob(what);
        }
    }

    public int check() {
        int wrong = journal.entriesTwice();
        for (int i = journal.firstOfJob(); i < journal.length(); i++) {
            if (journal.kind(i) == Journal.DONE && !liesWhereItWasDone(i)) {
                wrong++;
            }
        }
        for (int w = 0; w < WORKERS; w++) {
            wrong += workers[w].disk().wrongSums();
        }
        return wrong;
    }

    private int countOfJob(int what) {
        int j = what % 10;
        if (what < 10 || what >= 50 || j >= JOBS) {
            throw new IllegalArgumentException("nothing is counted so");
        }
        Job asked = store.jobNumbered(j);
        if (what < 20) {
            return asked.isMade() ? 1 : 0;
        }
        return asked.programFor(what / 10 - 2).length();
    }

    private boolean liesWhereItWasDone(int entry) {
        int w = journal.worker(entry);
        if (w < 0 || w >= WORKERS) {
            return false;
        }
        Disk disk = workers[w].disk();
        return disk.position() == journal.commits() && disk.holds(journal.task(entry));
    }

    private void needRest() {
        if (running) {
            throw new IllegalStateException("THE RUN goes on");
        }
    }

    private void needRun() {
        if (!running) {
            throw new IllegalStateException("THE RUN does not go on");
        }
    }

    private static boolean isFile(int f) {
        return f >= 0 && f < FILES;
    }

    private static void needFile(int f) {
        if (!isFile(f)) {
            throw new IndexOutOfBoundsException("no such FILE");
        }
    }

    private static void needJobNumber(int j) {
        if (j < 0 || j >= JOBS) {
            throw new IndexOutOfBoundsException("no such JOB");
        }
    }

    private static void needNode(int w) {
        if (w < 0 || w >= NODES) {
            throw new IndexOutOfBoundsException("no such WORKER");
        }
    }

    /** A row of pairs with a limit. Reading outside of it answers 0, so that no index ever throws. */
    private static final class Pairs {
        private final long[] keys;
        private final long[] values;
        private int length;

        Pairs(int limit) {
            keys = new long[limit];
            values = new long[limit];
        }

        int length() {
            return length;
        }

        int room() {
            return keys.length - length;
        }

        void empty() {
            length = 0;
        }

        long key(int i) {
            return i >= 0 && i < length ? keys[i] : 0;
        }

        long value(int i) {
            return i >= 0 && i < length ? values[i] : 0;
        }

        boolean add(long key, long value) {
            if (length >= keys.length) {
                return false;
            }
            keys[length] = key;
            values[length] = value;
            length++;
            return true;
        }

        /** All of the other row or, if there is no room for them, none. */
        boolean addAll(Pairs other) {
            if (other.length > room()) {
                return false;
            }
            System.arraycopy(other.keys, 0, keys, length, other.length);
            System.arraycopy(other.values, 0, values, length, other.length);
            length += other.length;
            return true;
        }

        /** The first place behind one whose KEY is another one. */
        int endOfKey(int from) {
            int end = from + 1;
            while (end < length && key(end) == key(from)) {
                end++;
            }
            return end;
        }

        long sumOf(int from, int amount) {
            long sum = amount;
            for (int i = from; i < from + amount; i++) {
                sum = (sum * 31 + key(i)) * 31 + value(i);
            }
            return sum;
        }

        /** By KEY; those of one KEY stay as they lie. The scratch row's contents are lost. */
        void order(Pairs scratch) {
            if (scratch.keys.length < length) {
                return;
            }
            for (int width = 1; width < length && width < PAIRS; width *= 2) {
                for (int from = 0; from < length; from += 2 * width) {
                    merge(scratch, from, width);
                }
                System.arraycopy(scratch.keys, 0, keys, 0, length);
                System.arraycopy(scratch.values, 0, values, 0, length);
            }
        }

        private void merge(Pairs scratch, int from, int width) {
            int middle = Math.min(from + width, length);
            int end = Math.min(middle + width, length);
            int left = from;
            int right = middle;
            for (int to = from; to < end; to++) {
                boolean takesLeft = right >= end || (left < middle && keys[left] <= keys[right]);
                int taken = takesLeft ? left : right;
                scratch.keys[to] = keys[taken];
                scratch.values[to] = values[taken];
                if (takesLeft) {
                    left++;
                } else {
                    right++;
                }
            }
        }
    }

    /** A row of INSTRUCTIONS; an empty one is none. */
    private static final class Program {
        static final int PUSH = 0;
        static final int KEY = 1;
        static final int VALUE = 2;
        static final int MORE = 3;
        static final int LOAD = 4;
        static final int STORE = 5;
        static final int ADD = 6;
        static final int SUBTRACT = 7;
        static final int MULTIPLY = 8;
        static final int DIVIDE = 9;
        static final int LESS = 10;
        static final int SAME = 11;
        static final int DOUBLE = 12;
        static final int DISCARD = 13;
        static final int SWAP = 14;
        static final int GO = 15;
        static final int GO_IF_0 = 16;
        static final int EMIT = 17;
        static final int END = 18;

        private final int[] ops = new int[INSTRUCTIONS];
        private final long[] args = new long[INSTRUCTIONS];
        private int length;

        static boolean usesCell(int op) {
            return op == LOAD || op == STORE;
        }

        static boolean leaps(int op) {
            return op == GO || op == GO_IF_0;
        }

        int length() {
            return length;
        }

        void empty() {
            length = 0;
        }

        /** Behind the end there is only END. */
        int op(int i) {
            return i >= 0 && i < length ? ops[i] : END;
        }

        long arg(int i) {
            return i >= 0 && i < length ? args[i] : 0;
        }

        boolean add(int op, long a) {
            if (length >= INSTRUCTIONS) {
                return false;
            }
            ops[length] = op;
            args[length] = a;
            length++;
            return true;
        }

        void take(Program other) {
            System.arraycopy(other.ops, 0, ops, 0, other.length);
            System.arraycopy(other.args, 0, args, 0, other.length);
            length = other.length;
        }

        boolean leapsBehindEnd() {
            for (int i = 0; i < length; i++) {
                if (leaps(ops[i]) && args[i] > length) {
                    return true;
                }
            }
            return false;
        }
    }

    /** PROGRAMS, and where they read and write; the PROGRAMS are there also while the JOB is not made. */
    private static final class Job {
        private final Program[] programs = new Program[3];
        private boolean made;
        private int first;
        private int second = NONE;
        private int output;
        private int parts = 1;

        Job() {
            for (int what = MAP; what <= REDUCE; what++) {
                programs[what] = new Program();
            }
        }

        Program programFor(int what) {
            return programs[what == MAP || what == COMBINE ? what : REDUCE];
        }

        boolean isMade() {
            return made;
        }

        void make(int a, int b, int c, int number) {
            made = true;
            first = a;
            second = b;
            output = c;
            parts = number;
        }

        boolean unmake() {
            boolean was = made;
            made = false;
            return was;
        }

        boolean reads(int f) {
            return first == f || second == f;
        }

        int first() {
            return first;
        }

        /** The second INPUT, or NONE. */
        int second() {
            return second;
        }

        int output() {
            return output;
        }

        int parts() {
            return parts;
        }

        int partOf(long key) {
            return parts > 0 ? (int) Math.floorMod(key, (long) parts) : 0;
        }
    }

    /** FILES, JOBS and THE CHAIN: what every node of the cluster can read. */
    private static final class Store {
        private final Pairs[] files = new Pairs[FILES];
        private final Job[] jobs = new Job[JOBS];
        private final int[] chain = new int[JOBS];
        private int chained;

        Store() {
            for (int f = 0; f < FILES; f++) {
                files[f] = new Pairs(RECORDS);
            }
            for (int j = 0; j < JOBS; j++) {
                jobs[j] = new Job();
            }
        }

        Pairs file(int f) {
            return files[f >= 0 && f < FILES ? f : 0];
        }

        Job jobNumbered(int j) {
            return jobs[j >= 0 && j < JOBS ? j : 0];
        }

        int madeJobs() {
            int made = 0;
            for (int j = 0; j < JOBS; j++) {
                if (jobs[j].isMade()) {
                    made++;
                }
            }
            return made;
        }

        int chained() {
            return chained;
        }

        /** The number of the JOB at a place of THE CHAIN, or NONE. */
        int numberAt(int position) {
            return position >= 0 && position < chained ? chain[position] : NONE;
        }

        /** The JOB at a place of THE CHAIN, or null. */
        Job jobAt(int position) {
            return position >= 0 && position < chained ? jobs[chain[position]] : null;
        }

        /** Puts THE CHAIN in order; false if it can not be run. */
        boolean plan() {
            chained = 0;
            int made = madeJobs();
            for (int i = 0; i < made; i++) {
                int next = nextForChain();
                if (next == NONE || sharesOutput(next)) {
                    return false;
                }
                chain[chained] = next;
                chained++;
            }
            return true;
        }

        private boolean sharesOutput(int j) {
            for (int k = 0; k < JOBS; k++) {
                if (k != j && jobs[k].isMade() && jobs[k].output() == jobs[j].output()) {
                    return true;
                }
            }
            return false;
        }

        private int nextForChain() {
            for (int j = 0; j < JOBS; j++) {
                if (jobs[j].isMade() && !isChained(j) && !waitsForOutput(j)) {
                    return j;
                }
            }
            return NONE;
        }

        /** One that has its own OUTPUT as INPUT waits for itself, and so is never next. */
        private boolean waitsForOutput(int j) {
            for (int k = 0; k < JOBS; k++) {
                if (jobs[k].isMade() && jobs[j].reads(jobs[k].output()) && !isChained(k)) {
                    return true;
                }
            }
            return false;
        }

        private boolean isChained(int j) {
            for (int i = 0; i < chained; i++) {
                if (chain[i] == j) {
                    return true;
                }
            }
            return false;
        }

        int inputLength(Job job) {
            int length = file(job.first()).length();
            return job.second() == NONE ? length : length + file(job.second()).length();
        }

        /** The FILE in which a RECORD of the INPUTS lies. */
        Pairs inputFile(Job job, int record) {
            return file(record < file(job.first()).length() ? job.first() : job.second());
        }

        /** Its place in that FILE. */
        int inputPlace(Job job, int record) {
            int before = file(job.first()).length();
            return record < before ? record : record - before;
        }

        /** An OUTPUT takes the place of what the FILE had, in one step. */
        void replace(int f, Pairs made) {
            Pairs target = file(f);
            target.empty();
            target.addAll(made);
        }
    }

    /** Calls PROGRAMS. */
    private static final class Machine {
        private static final int STACK = 12;
        private static final int STEPS = 400;

        private final long[] stack = new long[STACK];
        private final long[] cells = new long[CELLS];
        private final Pairs emitted = new Pairs(EMITS);
        private int depth;
        private boolean trapped;
        private int kind;
        private long key;
        /** Whose VALUES a call reads; never null, though no call has been yet. */
        private Pairs row = emitted;
        private int next;
        private int end;

        Pairs emitted() {
            return emitted;
        }

        /** One call for the KEY and the VALUES of a row's places from one up to another; false if it has a TRAP. */
        boolean call(Program program, int what, Pairs pairs, int from, int to) {
            depth = 0;
            trapped = false;
            Arrays.fill(cells, 0);
            emitted.empty();
            kind = what;
            key = pairs.key(from);
            row = pairs;
            next = from;
            end = to;
            int at = 0;
            for (int done = 0; done < STEPS && at < program.length(); done++) {
                int op = program.op(at);
                if (op == Program.END) {
                    return true;
                }
                at = obey(op, program.arg(at), at);
                if (trapped) {
                    return false;
                }
            }
            return at >= program.length();
        }

        /** Answers which INSTRUCTION is next. */
        private int obey(int op, long a, int at) {
            switch (op) {
                case Program.GO:
                    return (int) a;
                case Program.GO_IF_0:
                    return pop() == 0 ? (int) a : at + 1;
                case Program.EMIT:
                    emit();
                    return at + 1;
                case Program.STORE:
                    putCell(a, pop());
                    return at + 1;
                case Program.DOUBLE:
                case Program.DISCARD:
                case Program.SWAP:
                    shuffle(op);
                    return at + 1;
                case Program.PUSH:
                case Program.KEY:
                case Program.VALUE:
                case Program.MORE:
                case Program.LOAD:
                    push(read(op, a));
                    return at + 1;
                default:
                    calculate(op);
                    return at + 1;
            }
        }

        private long read(int op, long a) {
            switch (op) {
                case Program.PUSH:
                    return a;
                case Program.KEY:
                    return key;
                case Program.VALUE:
                    return readValue();
                case Program.MORE:
                    return kind != MAP && next < end ? 1 : 0;
                default:
                    return a >= 0 && a < CELLS ? cells[(int) a] : 0;
            }
        }

        private long readValue() {
            if (kind == MAP) {
                return row.value(next);
            }
            if (next >= end) {
                trapped = true;
                return 0;
            }
            long value = row.value(next);
            next++;
            return value;
        }

        private void putCell(long a, long value) {
            if (a >= 0 && a < CELLS) {
                cells[(int) a] = value;
            }
        }

        private void shuffle(int op) {
            long top = pop();
            if (op == Program.DOUBLE) {
                push(top);
                push(top);
            } else if (op == Program.SWAP) {
                long lower = pop();
                push(top);
                push(lower);
            }
        }

        private void calculate(int op) {
            long top = pop();
            long lower = pop();
            switch (op) {
                case Program.ADD:
                    push(lower + top);
                    break;
                case Program.SUBTRACT:
                    push(lower - top);
                    break;
                case Program.MULTIPLY:
                    push(lower * top);
                    break;
                case Program.DIVIDE:
                    divide(lower, top);
                    break;
                case Program.LESS:
                    push(lower < top ? 1 : 0);
                    break;
                default:
                    push(lower == top ? 1 : 0);
                    break;
            }
        }

        private void divide(long lower, long top) {
            if (top == 0) {
                trapped = true;
            } else {
                push(lower / top);
            }
        }

        private void emit() {
            long value = pop();
            long of = kind == COMBINE ? key : pop();
            if (!emitted.add(of, value)) {
                trapped = true;
            }
        }

        private void push(long x) {
            if (depth >= STACK) {
                trapped = true;
            } else {
                stack[depth] = x;
                depth++;
            }
        }

        private long pop() {
            if (depth <= 0) {
                trapped = true;
                return 0;
            }
            depth--;
            return stack[depth];
        }
    }

    /** What goes over the line; each kind uses the fields that it needs. */
    private static final class Message {
        /** A WORKER has nothing to do. */
        static final int ASK = 0;
        /** The MASTER gives a task: amount says how many SPLITS there are, the load who has each of them. */
        static final int GIVE = 1;
        /** A task is done: amount says how many pairs came of it. */
        static final int DONE = 2;
        /** A task shows that the JOB FAILS. */
        static final int FAIL = 3;
        /** A node wants the pairs of a task that are of a PART, from an offset on. */
        static final int FETCH = 4;
        /** Some of these pairs: amount of them in the load, total in all. */
        static final int PAGE = 5;
        /** These pairs are wanted by nobody any more, for their JOB is done. */
        static final int GONE = 6;

        static final int PAGE_PAIRS = 16;
        private static final int LOAD = 38;

        private final long[] load = new long[LOAD];
        private int loaded;
        int kind;
        int from;
        int to;
        int position;
        int task;
        int part;
        int offset;
        int amount;
        int total;

        /** A new text on this sheet, about a task of the JOB at a place of THE CHAIN. */
        void write(int newKind, int sender, int receiver, int place, int about) {
            kind = newKind;
            from = sender;
            to = receiver;
            position = place;
            task = about;
            part = 0;
            offset = 0;
            amount = 0;
            total = 0;
            loaded = 0;
        }

        void copy(Message other) {
            kind = other.kind;
            from = other.from;
            to = other.to;
            position = other.position;
            task = other.task;
            part = other.part;
            offset = other.offset;
            amount = other.amount;
            total = other.total;
            loaded = other.loaded;
            System.arraycopy(other.load, 0, load, 0, loaded);
        }

        void put(long x) {
            if (loaded < LOAD) {
                load[loaded] = x;
                loaded++;
            }
        }

        long get(int i) {
            return i >= 0 && i < loaded ? load[i] : 0;
        }

        /** Whether this page is the one that was waited for. */
        boolean answers(int place, int about, int ofPart, int from) {
            return kind == PAGE && position == place && task == about && part == ofPart && offset == from;
        }

        void unload(Pairs target) {
            for (int i = 0; i < amount; i++) {
                target.add(get(2 * i), get(2 * i + 1));
            }
        }
    }

    /** Brings messages to the nodes' inboxes; loses and repeats some. What does not fit is lost too. */
    private static final class Line {
        private static final int INBOX = 16;
        private static final int MASK = 0xFFFF;

        private final Message[] slots = new Message[NODES * INBOX];
        private final int[] oldest = new int[NODES];
        private final int[] waiting = new int[NODES];
        private final boolean[] down = new boolean[NODES];
        private int lost;
        private int twice;

        Line() {
            for (int i = 0; i < NODES * INBOX; i++) {
                slots[i] = new Message();
            }
        }

        void reset() {
            for (int node = 0; node < NODES; node++) {
                waiting[node] = 0;
                down[node] = false;
            }
            disturb(0, 0);
        }

        void disturb(int lostMask, int twiceMask) {
            lost = lostMask & MASK;
            twice = twiceMask & MASK;
        }

        void send(Message message) {
            int times = (lost & 1) != 0 ? 0 : (twice & 1) != 0 ? 2 : 1;
            lost >>>= 1;
            twice >>>= 1;
            int node = message.to;
            if (node < 0 || node >= NODES || down[node]) {
                return;
            }
            for (int i = 0; i < times && waiting[node] < INBOX; i++) {
                slots[node * INBOX + (oldest[node] + waiting[node]) % INBOX].copy(message);
                waiting[node]++;
            }
        }

        int waiting(int node) {
            return node >= 0 && node < NODES ? waiting[node] : 0;
        }

        /** The oldest message for a node, or null; it stays readable until the node is sent another one. */
        Message next(int node) {
            if (node < 0 || node >= NODES || waiting[node] <= 0) {
                return null;
            }
            Message message = slots[node * INBOX + oldest[node]];
            oldest[node] = (oldest[node] + 1) % INBOX;
            waiting[node]--;
            return message;
        }

        /** A node is down: what waits for it is lost. */
        void cut(int node) {
            if (node >= 0 && node < NODES) {
                down[node] = true;
                waiting[node] = 0;
            }
        }

        /** A node is up: whether it was down. */
        boolean rejoin(int node) {
            if (node < 0 || node >= NODES) {
                return false;
            }
            boolean was = down[node];
            down[node] = false;
            return was;
        }
    }

    /** What a WORKER keeps through a crash, all of one JOB: spilled pairs, and what came of its tasks. */
    private static final class Disk {
        private final Pairs spilled = new Pairs(SPLIT * EMITS);
        private final Pairs pairs = new Pairs(PAIRS);
        private final Pairs records = new Pairs(RECORDS);
        private final int[] starts = new int[TASKS];
        private final int[] amounts = new int[TASKS];
        private final long[] sums = new long[TASKS];
        private int position = NONE;

        Disk() {
            Arrays.fill(amounts, NONE);
        }

        /** The place in THE CHAIN of the JOB that the disk is for. */
        int position() {
            return position;
        }

        Pairs spilled() {
            return spilled;
        }

        void wipe(int place) {
            position = place;
            spilled.empty();
            pairs.empty();
            records.empty();
            Arrays.fill(amounts, NONE);
        }

        boolean holds(int task) {
            return task >= 0 && task < TASKS && amounts[task] != NONE;
        }

        int amount(int task) {
            return holds(task) ? amounts[task] : 0;
        }

        private Pairs rowOf(int task) {
            return task < SPLITS ? pairs : records;
        }

        /** False if there is no room: then the JOB makes too much, for the rows are as long as it may make in all. */
        boolean keep(int task, Pairs made) {
            if (task < 0 || task >= TASKS || amounts[task] != NONE) {
                return false;
            }
            Pairs row = rowOf(task);
            int start = row.length();
            if (!row.addAll(made)) {
                return false;
            }
            starts[task] = start;
            amounts[task] = made.length();
            sums[task] = row.sumOf(start, made.length());
            return true;
        }

        /** Writes into a page, from its offset on, what it is about: of a SPLIT's pairs those of its PART. */
        void load(Message page, Job job) {
            if (!holds(page.task)) {
                return;
            }
            Pairs row = rowOf(page.task);
            int end = starts[page.task] + amounts[page.task];
            for (int i = starts[page.task]; i < end; i++) {
                if (page.task < SPLITS && job.partOf(row.key(i)) != page.part) {
                    continue;
                }
                if (page.total >= page.offset && page.amount < Message.PAGE_PAIRS) {
                    page.put(row.key(i));
                    page.put(row.value(i));
                    page.amount++;
                }
                page.total++;
            }
        }

        int wrongSums() {
            int wrong = 0;
            for (int task = 0; task < TASKS; task++) {
                if (holds(task) && rowOf(task).sumOf(starts[task], amounts[task]) != sums[task]) {
                    wrong++;
                }
            }
            return wrong;
        }
    }

    /** Does one task at a time, a RECORD, a page or a KEY in a tick, and gives others what lies on its disk. */
    private static final class Worker {
        private static final int IDLE = 0;
        private static final int MAPPING = 1;
        private static final int COMBINING = 2;
        private static final int FETCHING = 3;
        private static final int REDUCING = 4;

        /** Less than a SPLIT can emit, so that there is something to spill. */
        private static final int BUFFER = 24;

        private final int number;
        private final Store store;
        private final Line wire;
        private final Disk disk = new Disk();
        private final Machine machine = new Machine();
        private final Message letter = new Message();
        private final Pairs buffer = new Pairs(BUFFER);
        private final Pairs gathered = new Pairs(PAIRS);
        private final Pairs scratch = new Pairs(PAIRS);
        private final Pairs made = new Pairs(RECORDS);
        private final int[] holders = new int[SPLITS];
        private int splits;
        private int stage = IDLE;
        private int task;
        private Job job;
        /** The RECORD of the SPLIT, the SPLIT to fetch from, or the place in what is gathered. */
        private int at;
        private int offset;
        private int waited;

        Worker(int number, Store store, Line wire) {
            this.number = number;
            this.store = store;
            this.wire = wire;
        }

        Disk disk() {
            return disk;
        }

        void reset() {
            forget();
            disk.wipe(NONE);
        }

        /** What a crash does to the memory. */
        void forget() {
            rest();
            buffer.empty();
            gathered.empty();
            made.empty();
        }

        private void rest() {
            stage = IDLE;
            job = null;
            waited = PATIENCE;
        }

        void work() {
            wire.rejoin(number);
            int waiting = wire.waiting(number);
            for (int i = 0; i < waiting; i++) {
                Message message = wire.next(number);
                if (message != null) {
                    hear(message);
                }
            }
            if (job == null) {
                askForTask();
            } else if (stage == MAPPING) {
                mapOne();
            } else if (stage == FETCHING) {
                fetchOne();
            } else {
                foldOne();
            }
        }

        private void hear(Message message) {
            switch (message.kind) {
                case Message.GIVE:
                    hearGive(message);
                    break;
                case Message.FETCH:
                    hearFetch(message);
                    break;
                case Message.PAGE:
                    hearPage(message);
                    break;
                case Message.GONE:
                    if (stage == FETCHING && message.position == disk.position()) {
                        rest();
                    }
                    break;
                default:
                    break;
            }
        }

        /** A task of a JOB behind that of the disk says that what lies there is wanted no more. */
        private void hearGive(Message message) {
            if (job != null || store.jobAt(message.position) == null || message.position < disk.position()) {
                return;
            }
            if (message.position > disk.position()) {
                disk.wipe(message.position);
            }
            if (disk.holds(message.task)) {
                report(Message.DONE, message.task);
            } else {
                start(message);
            }
        }

        private void start(Message message) {
            job = store.jobAt(message.position);
            task = message.task;
            stage = task < SPLITS ? MAPPING : FETCHING;
            at = 0;
            offset = 0;
            waited = PATIENCE;
            buffer.empty();
            gathered.empty();
            made.empty();
            disk.spilled().empty();
            splits = Math.min(message.amount, SPLITS);
            for (int s = 0; s < splits; s++) {
                holders[s] = (int) message.get(s);
            }
        }

        private void hearFetch(Message message) {
            if (message.position < disk.position()) {
                letter.write(Message.GONE, number, message.from, message.position, message.task);
                wire.send(letter);
            } else if (message.position == disk.position() && disk.holds(message.task)) {
                writePage(message.from, message.task, message.part, message.offset);
                wire.send(letter);
            }
        }

        private void writePage(int to, int ofTask, int ofPart, int from) {
            letter.write(Message.PAGE, number, to, disk.position(), ofTask);
            letter.part = ofPart;
            letter.offset = from;
            Job kept = store.jobAt(disk.position());
            if (kept != null) {
                disk.load(letter, kept);
            }
        }

        private void hearPage(Message page) {
            if (stage != FETCHING || !page.answers(disk.position(), at, task - SPLITS, offset)) {
                return;
            }
            page.unload(gathered);
            offset += page.amount;
            waited = PATIENCE;
            if (offset >= page.total) {
                at++;
                offset = 0;
            }
        }

        private void askForTask() {
            waited++;
            if (waited > PATIENCE) {
                waited = 0;
                letter.write(Message.ASK, number, MASTER, disk.position(), NONE);
                wire.send(letter);
            }
        }

        private void mapOne() {
            int record = task * SPLIT + at;
            if (at >= SPLIT || record >= store.inputLength(job)) {
                mergeSpills();
                return;
            }
            Pairs file = store.inputFile(job, record);
            int place = store.inputPlace(job, record);
            if (!machine.call(job.programFor(MAP), MAP, file, place, place + 1)) {
                report(Message.FAIL, task);
                return;
            }
            buffer.addAll(machine.emitted());
            at++;
            if (buffer.room() < EMITS) {
                spill();
            }
        }

        private void spill() {
            buffer.order(scratch);
            disk.spilled().addAll(buffer);
            buffer.empty();
        }

        private void mergeSpills() {
            spill();
            gathered.addAll(disk.spilled());
            gathered.order(scratch);
            at = 0;
            stage = COMBINING;
            if (job.programFor(COMBINE).length() == 0) {
                made.addAll(gathered);
                at = gathered.length();
            }
        }

        private void fetchOne() {
            if (at >= splits) {
                gathered.order(scratch);
                at = 0;
                stage = REDUCING;
                return;
            }
            if (holders[at] == number) {
                writePage(number, at, task - SPLITS, offset);
                hearPage(letter);
                return;
            }
            waited++;
            if (waited > PATIENCE) {
                waited = 0;
                letter.write(Message.FETCH, number, holders[at], disk.position(), at);
                letter.part = task - SPLITS;
                letter.offset = offset;
                wire.send(letter);
            }
        }

        /** COMBINE or REDUCE of one KEY of what is gathered. */
        private void foldOne() {
            if (at >= gathered.length()) {
                keep(made);
                return;
            }
            int what = stage == COMBINING ? COMBINE : REDUCE;
            int end = gathered.endOfKey(at);
            if (machine.call(job.programFor(what), what, gathered, at, end) && made.addAll(machine.emitted())) {
                at = end;
            } else {
                report(Message.FAIL, task);
            }
        }

        private void keep(Pairs result) {
            report(disk.keep(task, result) ? Message.DONE : Message.FAIL, task);
        }

        /** If this is lost, the MASTER gives the task again. */
        private void report(int kind, int about) {
            letter.write(kind, number, MASTER, disk.position(), about);
            letter.amount = disk.amount(about);
            wire.send(letter);
            rest();
        }
    }

    /** What the MASTER keeps through a crash: tasks that were done, and how JOBS ended. */
    private static final class Journal {
        static final int DONE = 0;
        static final int COMMIT = 1;
        static final int FAIL = 2;

        /** For each JOB all tasks and an end. */
        private static final int ENTRIES = 360;

        private final int[] kinds = new int[ENTRIES];
        private final int[] tasks = new int[ENTRIES];
        private final int[] workers = new int[ENTRIES];
        private final int[] amounts = new int[ENTRIES];
        private int length;
        private int commits;
        private int firstOfJob;

        void empty() {
            length = 0;
            commits = 0;
            firstOfJob = 0;
        }

        void write(int kind, int task, int worker, int amount) {
            if (length >= ENTRIES) {
                return;
            }
            kinds[length] = kind;
            tasks[length] = task;
            workers[length] = worker;
            amounts[length] = amount;
            length++;
            if (kind == COMMIT) {
                commits++;
                firstOfJob = length;
            }
        }

        int length() {
            return length;
        }

        int commits() {
            return commits;
        }

        /** Where the entries of the JOB begin that is not committed. */
        int firstOfJob() {
            return firstOfJob;
        }

        int kind(int i) {
            return i >= 0 && i < length ? kinds[i] : NONE;
        }

        int task(int i) {
            return i >= 0 && i < length ? tasks[i] : NONE;
        }

        int worker(int i) {
            return i >= 0 && i < length ? workers[i] : NONE;
        }

        int amount(int i) {
            return i >= 0 && i < length ? amounts[i] : 0;
        }

        /** Tasks of the JOB that were taken as done more than once. */
        int entriesTwice() {
            int wrong = 0;
            for (int i = firstOfJob; i < length; i++) {
                for (int k = i + 1; k < length; k++) {
                    if (kinds[i] == DONE && kinds[k] == DONE && tasks[i] == tasks[k]) {
                        wrong++;
                    }
                }
            }
            return wrong;
        }
    }

    /** Gives tasks to WORKERS that ask, gathers the PARTS, and puts an OUTPUT in its place. */
    private static final class Master {
        /** How many ticks of its own the MASTER waits for a task before another WORKER gets it too. */
        private static final int LEASE = 300;

        private final Store store;
        private final Line wire;
        private final Journal journal;
        private final Message letter = new Message();
        private final Pairs staged = new Pairs(RECORDS);
        private final int[] doneBy = new int[TASKS];
        private final int[] givenTo = new int[TASKS];
        private final int[] givenAt = new int[TASKS];
        private Job job;
        private int position;
        private int failed = NONE;
        private int splits;
        private int splitsDone;
        private int partsDone;
        private int pairs;
        private int records;
        private int clock;
        private int part;
        private int offset;
        private int waited;

        Master(Store store, Line wire, Journal journal) {
            this.store = store;
            this.wire = wire;
            this.journal = journal;
        }

        boolean isOver() {
            return failed != NONE || position >= store.chained();
        }

        /** The number of the JOB that FAILED, or NONE. */
        int failedJob() {
            return failed;
        }

        /** What a crash does to the memory. */
        void forget() {
            failed = NONE;
            clock = 0;
            open(0);
        }

        /** The memory is made anew from the journal. */
        void recall() {
            forget();
            for (int i = 0; i < journal.length(); i++) {
                if (journal.kind(i) == Journal.COMMIT) {
                    open(position + 1);
                } else if (journal.kind(i) == Journal.FAIL) {
                    failed = store.numberAt(position);
                } else {
                    note(journal.task(i), journal.worker(i), journal.amount(i));
                }
            }
        }

        private void note(int task, int worker, int amount) {
            if (task < 0 || task >= TASKS) {
                return;
            }
            doneBy[task] = worker;
            if (task < SPLITS) {
                splitsDone++;
                pairs += amount;
            } else {
                partsDone++;
                records += amount;
            }
        }

        private void fail() {
            journal.write(Journal.FAIL, NONE, NONE, 0);
            failed = store.numberAt(position);
        }

        private void commit() {
            store.replace(job.output(), staged);
            journal.write(Journal.COMMIT, NONE, NONE, staged.length());
            open(position + 1);
        }

        private void open(int place) {
            position = place;
            job = store.jobAt(place);
            splits = job == null ? 0 : (store.inputLength(job) + SPLIT - 1) / SPLIT;
            splitsDone = 0;
            partsDone = 0;
            pairs = 0;
            records = 0;
            part = 0;
            offset = 0;
            waited = PATIENCE;
            staged.empty();
            Arrays.fill(doneBy, NONE);
            Arrays.fill(givenTo, NONE);
        }

        void work() {
            if (wire.rejoin(MASTER)) {
                recall();
            }
            clock++;
            int waiting = wire.waiting(MASTER);
            for (int i = 0; i < waiting; i++) {
                Message message = wire.next(MASTER);
                if (message != null && !isOver()) {
                    hear(message);
                }
            }
            if (!isOver() && job != null && partsDone == job.parts()) {
                gatherParts();
            }
        }

        private void hear(Message message) {
            if (message.kind == Message.ASK) {
                hearAsk(message.from);
            } else if (message.position == position) {
                switch (message.kind) {
                    case Message.DONE:
                        hearDone(message);
                        break;
                    case Message.FAIL:
                        fail();
                        break;
                    case Message.PAGE:
                        hearPage(message);
                        break;
                    default:
                        break;
                }
            }
        }

        private void hearAsk(int worker) {
            int task = taskFor(worker);
            if (task == NONE) {
                return;
            }
            givenTo[task] = worker;
            givenAt[task] = clock;
            letter.write(Message.GIVE, MASTER, worker, position, task);
            letter.amount = splits;
            for (int s = 0; s < splits; s++) {
                letter.put(doneBy[s]);
            }
            wire.send(letter);
        }

        /** One who asks has nothing in hand: what it was given before, it has lost or never got. */
        private int taskFor(int worker) {
            boolean mapping = splitsDone < splits;
            int first = mapping ? 0 : SPLITS;
            int end = mapping ? splits : SPLITS + (job == null ? 0 : job.parts());
            int found = NONE;
            for (int task = first; task < end; task++) {
                if (doneBy[task] == NONE) {
                    if (givenTo[task] == worker) {
                        return task;
                    }
                    if (found == NONE && (givenTo[task] == NONE || clock - givenAt[task] > LEASE)) {
                        found = task;
                    }
                }
            }
            return found;
        }

        /** The first who did a task has it; what others did of it again is never asked for. */
        private void hearDone(Message message) {
            int task = message.task;
            if (task < 0 || task >= TASKS || doneBy[task] != NONE) {
                return;
            }
            journal.write(Journal.DONE, task, message.from, message.amount);
            note(task, message.from, message.amount);
            if (pairs > PAIRS || records > RECORDS) {
                fail();
            }
        }

        private void gatherParts() {
            if (part >= job.parts()) {
                commit();
                return;
            }
            waited++;
            if (waited > PATIENCE) {
                waited = 0;
                letter.write(Message.FETCH, MASTER, doneBy[SPLITS + part], position, SPLITS + part);
                letter.part = part;
                letter.offset = offset;
                wire.send(letter);
            }
        }

        private void hearPage(Message page) {
            if (!page.answers(position, SPLITS + part, part, offset)) {
                return;
            }
            page.unload(staged);
            offset += page.amount;
            waited = PATIENCE;
            if (offset >= page.total) {
                part++;
                offset = 0;
            }
        }
    }
}
