import java.util.ArrayList;
import java.util.Arrays;
import java.util.List;
import java.util.Map;
import java.util.TreeMap;

/** The document without a cluster: what THE RUN makes, worked out at once when it begins. */
final class PlainMill {
    private static final class Trap extends RuntimeException {
        private static final long serialVersionUID = 1L;
    }

    private static final class PlainJob {
        final List<List<long[]>> programs = new ArrayList<>(Arrays.asList(null, null, null));
        boolean made;
        int a;
        int b;
        int output;
        int parts;

        List<Integer> inputs() {
            return b < 0 ? List.of(a) : List.of(a, b);
        }

        int length(int what) {
            return programs.get(what) == null ? 0 : programs.get(what).size();
        }
    }

    private final List<List<long[]>> files = new ArrayList<>();
    private final PlainJob[] jobs = new PlainJob[8];
    private List<long[]> draft = new ArrayList<>();
    private boolean running;
    private int runs;
    private List<Integer> chain;

    PlainMill() {
        for (int f = 0; f < 16; f++) {
            files.add(new ArrayList<>());
        }
        for (int j = 0; j < 8; j++) {
            jobs[j] = new PlainJob();
        }
    }

    private static void need(boolean holds, RuntimeException e) {
        if (!holds) {
            throw e;
        }
    }

    private static void index(boolean holds) {
        need(holds, new IndexOutOfBoundsException());
    }

    private static void argument(boolean holds) {
        need(holds, new IllegalArgumentException());
    }

    private static void state(boolean holds) {
        need(holds, new IllegalStateException());
    }

    int record(int f, long key, long value) {
        index(f >= 0 && f < 16);
        state(!running && files.get(f).size() < 300);
        files.get(f).add(new long[] {key, value});
        return files.get(f).size();
    }

    int clear(int f) {
        index(f >= 0 && f < 16);
        state(!running);
        int had = files.get(f).size();
        files.set(f, new ArrayList<>());
        return had;
    }

    int code(int op, long a) {
        argument(op >= 0 && op <= 18);
        argument((op != 4 && op != 5) || (a >= 0 && a <= 3));
        argument((op != 15 && op != 16) || (a >= 0 && a <= 40));
        state(!running && draft.size() < 40);
        draft.add(new long[] {op, a});
        return draft.size();
    }

    int program(int j, int what) {
        index(j >= 0 && j < 8);
        argument(what >= 0 && what <= 2 && (what == 1 || !draft.isEmpty()));
        for (long[] instruction : draft) {
            argument((instruction[0] != 15 && instruction[0] != 16) || instruction[1] <= draft.size());
        }
        state(!running);
        int length = draft.size();
        jobs[j].programs.set(what, length == 0 ? null : draft);
        draft = new ArrayList<>();
        return length;
    }

    void job(int j, int a, int b, int output, int parts) {
        index(j >= 0 && j < 8);
        argument(a >= 0 && a < 16 && b >= -1 && b < 16 && output >= 0 && output < 16 && parts >= 1 && parts <= 6);
        state(!running && jobs[j].length(0) > 0 && jobs[j].length(2) > 0);
        jobs[j].made = true;
        jobs[j].a = a;
        jobs[j].b = b;
        jobs[j].output = output;
        jobs[j].parts = parts;
    }

    boolean drop(int j) {
        index(j >= 0 && j < 8);
        state(!running);
        boolean was = jobs[j].made;
        jobs[j].made = false;
        return was;
    }

    int begin() {
        state(!running);
        List<Integer> order = order();
        need(order != null, new UnsupportedOperationException());
        chain = order;
        running = true;
        runs++;
        return chain.size();
    }

    private List<Integer> order() {
        List<Integer> open = new ArrayList<>();
        List<Integer> outputs = new ArrayList<>();
        for (int j = 0; j < 8; j++) {
            if (jobs[j].made) {
                if (outputs.contains(jobs[j].output) || jobs[j].inputs().contains(jobs[j].output)) {
                    return null;
                }
                outputs.add(jobs[j].output);
                open.add(j);
            }
        }
        List<Integer> order = new ArrayList<>();
        while (!open.isEmpty()) {
            Integer next = null;
            for (Integer j : open) {
                boolean free = true;
                for (Integer k : open) {
                    free &= !jobs[j].inputs().contains(jobs[k].output);
                }
                if (free && next == null) {
                    next = j;
                }
            }
            if (next == null) {
                return null;
            }
            open.remove(next);
            order.add(next);
        }
        return order;
    }

    void tick(int w, int n) {
        index(w >= 0 && w <= 6);
        argument(n >= 1 && n <= 200);
        state(running);
    }

    void crash(int w) {
        index(w >= 0 && w <= 6);
        state(running);
    }

    void line(int lost, int twice) {
        state(running);
    }

    int finish() {
        state(running);
        running = false;
        for (int j : chain) {
            List<long[]> made;
            try {
                made = make(jobs[j]);
            } catch (Trap trap) {
                return j;
            }
            files.set(jobs[j].output, made);
        }
        return -1;
    }

    private List<long[]> make(PlainJob job) {
        List<long[]> input = new ArrayList<>();
        for (int f : job.inputs()) {
            input.addAll(files.get(f));
        }
        List<long[]> all = new ArrayList<>();
        for (int from = 0; from < input.size(); from += 16) {
            all.addAll(mapSplit(job, input.subList(from, Math.min(from + 16, input.size()))));
        }
        if (all.size() > 1000) {
            throw new Trap();
        }
        List<long[]> output = new ArrayList<>();
        for (int part = 0; part < job.parts; part++) {
            List<long[]> mine = new ArrayList<>();
            for (long[] pair : all) {
                long rest = pair[0] % job.parts;
                if ((rest < 0 ? rest + job.parts : rest) == part) {
                    mine.add(pair);
                }
            }
            for (Map.Entry<Long, List<Long>> group : byKey(mine).entrySet()) {
                output.addAll(call(job.programs.get(2), 2, group.getKey(), group.getValue()));
            }
        }
        if (output.size() > 300) {
            throw new Trap();
        }
        return output;
    }

    private static List<long[]> mapSplit(PlainJob job, List<long[]> split) {
        List<long[]> emitted = new ArrayList<>();
        for (long[] record : split) {
            emitted.addAll(call(job.programs.get(0), 0, record[0], List.of(record[1])));
        }
        List<long[]> pairs = new ArrayList<>();
        for (Map.Entry<Long, List<Long>> group : byKey(emitted).entrySet()) {
            if (job.programs.get(1) != null) {
                pairs.addAll(call(job.programs.get(1), 1, group.getKey(), group.getValue()));
            } else {
                for (long value : group.getValue()) {
                    pairs.add(new long[] {group.getKey(), value});
                }
            }
        }
        return pairs;
    }

    private static TreeMap<Long, List<Long>> byKey(List<long[]> pairs) {
        TreeMap<Long, List<Long>> groups = new TreeMap<>();
        for (long[] pair : pairs) {
            groups.computeIfAbsent(pair[0], k -> new ArrayList<>()).add(pair[1]);
        }
        return groups;
    }

    private static final class Stack {
        final ArrayList<Long> rows = new ArrayList<>();

        void push(long x) {
            if (rows.size() == 12) {
                throw new Trap();
            }
            rows.add(x);
        }

        long pop() {
            if (rows.isEmpty()) {
                throw new Trap();
            }
            return rows.remove(rows.size() - 1);
        }
    }

    private static List<long[]> call(List<long[]> program, int what, long key, List<Long> values) {
        Stack stack = new Stack();
        long[] cells = new long[4];
        List<long[]> emitted = new ArrayList<>();
        int next = 0;
        int at = 0;
        int done = 0;
        while (at < program.size()) {
            done++;
            if (done > 400) {
                throw new Trap();
            }
            int op = (int) program.get(at)[0];
            long a = program.get(at)[1];
            at++;
            if (op == 0) {
                stack.push(a);
            } else if (op == 1) {
                stack.push(key);
            } else if (op == 2) {
                if (what == 0) {
                    stack.push(values.get(0));
                } else if (next < values.size()) {
                    stack.push(values.get(next++));
                } else {
                    throw new Trap();
                }
            } else if (op == 3) {
                stack.push(what != 0 && next < values.size() ? 1 : 0);
            } else if (op == 4) {
                stack.push(cells[(int) a]);
            } else if (op == 5) {
                cells[(int) a] = stack.pop();
            } else if (op >= 6 && op <= 11) {
                long top = stack.pop();
                long lower = stack.pop();
                if (op == 9 && top == 0) {
                    throw new Trap();
                }
                stack.push(op == 6 ? lower + top : op == 7 ? lower - top : op == 8 ? lower * top
                        : op == 9 ? lower / top : op == 10 ? (lower < top ? 1 : 0) : (lower == top ? 1 : 0));
            } else if (op == 12) {
                long top = stack.pop();
                stack.push(top);
                stack.push(top);
            } else if (op == 13) {
                stack.pop();
            } else if (op == 14) {
                long top = stack.pop();
                long lower = stack.pop();
                stack.push(top);
                stack.push(lower);
            } else if (op == 15) {
                at = (int) a;
            } else if (op == 16) {
                at = stack.pop() == 0 ? (int) a : at;
            } else if (op == 17) {
                long value = stack.pop();
                emitted.add(new long[] {what == 1 ? key : stack.pop(), value});
                if (emitted.size() > 4) {
                    throw new Trap();
                }
            } else {
                return emitted;
            }
        }
        return emitted;
    }

    long told(int f, int i, boolean value) {
        index(f >= 0 && f < 16);
        state(!running);
        index(i >= 0 && i < files.get(f).size());
        return files.get(f).get(i)[value ? 1 : 0];
    }

    int size(int f) {
        index(f >= 0 && f < 16);
        state(!running);
        return files.get(f).size();
    }

    int count(int what) {
        if (what == 0) {
            return running ? 1 : 0;
        }
        if (what == 1) {
            int made = 0;
            for (PlainJob job : jobs) {
                made += job.made ? 1 : 0;
            }
            return made;
        }
        if (what == 2) {
            return draft.size();
        }
        if (what == 3) {
            return runs;
        }
        for (int j = 0; j < 8; j++) {
            if (what == 10 + j) {
                return jobs[j].made ? 1 : 0;
            }
            for (int k = 0; k < 3; k++) {
                if (what == 20 + 10 * k + j) {
                    return jobs[j].length(k);
                }
            }
        }
        throw new IllegalArgumentException();
    }

    int check() {
        return 0;
    }
}
