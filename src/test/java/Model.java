import java.util.ArrayDeque;
import java.util.ArrayList;
import java.util.HashMap;
import java.util.List;
import java.util.Map;

/**
 * The document read a second time, as plainly as it can be said and without regard to cost: every
 * cell of every call is a box of eight bytes of its own, and nothing is used again.
 */
final class Model {
    static final long THROWS = 0x7468726f7773L;

    private static final class Box {
        final byte[] bytes = new byte[8];

        Box(long v) {
            put(8, v);
        }

        void put(int n, long v) {
            for (int i = 0; i < n; i++) {
                bytes[i] = (byte) (v >> (8 * i));
            }
        }

        long value(int n) {
            long v = bytes[n - 1];
            for (int i = n - 2; i >= 0; i--) {
                v = v * 256 + (bytes[i] & 255);
            }
            return v;
        }
    }

    private record Part(Box box, int bytes) {
    }

    private record Formal(boolean byValue, boolean optional, int bytes) {
    }

    private static final class Prog {
        int number;
        int within;
        int name;
        boolean initial;
        boolean common;
        boolean recursive;
        boolean global;
        final List<Formal> formals = new ArrayList<>();
        final Map<Integer, Long> firsts = new HashMap<>();
        Map<Integer, Box> data = null;

        Map<Integer, Box> freshData() {
            Map<Integer, Box> made = new HashMap<>();
            firsts.forEach((cell, v) -> made.put(cell, new Box(v)));
            return made;
        }
    }

    private static final class Run {
        Prog prog;
        Map<Integer, Box> data;
        final List<Part> formals = new ArrayList<>();
    }

    private final int depth;
    private final List<Prog> progs = new ArrayList<>();
    private final Map<Integer, Box> externals = new HashMap<>();
    private final Map<Integer, Integer> externalNames = new HashMap<>();
    private final ArrayDeque<Run> stack = new ArrayDeque<>();
    private int cells = 0;
    private Prog prepared = null;
    private List<Part> arguments = new ArrayList<>();
    private long returned = 0;

    Model(int depth) {
        this.depth = depth < 0 ? 0 : depth > 65536 ? 65536 : depth;
    }

    private Prog prog(int number) {
        return number < 1 || number > progs.size() ? null : progs.get(number - 1);
    }

    private boolean isActive(Prog p) {
        return stack.stream().anyMatch(r -> r.prog == p);
    }

    /** The programs that p lies in, from the inner ones on. */
    private List<Prog> around(Prog p) {
        List<Prog> list = new ArrayList<>();
        for (Prog a = prog(p.within); a != null; a = prog(a.within)) {
            list.add(a);
        }
        return list;
    }

    private Prog within(int outer, int name) {
        return progs.stream().filter(p -> p.within == outer && p.name == name).findFirst().orElse(null);
    }

    private Prog find(int from, int name) {
        Prog p = prog(from);
        if (p != null) {
            Prog inner = within(from, name);
            if (inner != null) {
                return inner;
            }
            List<Prog> selfAndAround = new ArrayList<>(around(p));
            selfAndAround.add(0, p);
            for (Prog a : selfAndAround) {
                if (a.recursive && a.name == name) {
                    return a;
                }
            }
            for (Prog a : around(p)) {
                Prog c = within(a.number, name);
                if (c != null && c.common && !selfAndAround.contains(c)) {
                    return c;
                }
            }
        }
        return within(0, name);
    }

    private int running() {
        return stack.isEmpty() ? 0 : stack.peek().prog.number;
    }

    private Part visible(int cell) {
        if (externals.containsKey(cell)) {
            return new Part(externals.get(cell), 8);
        }
        if (stack.isEmpty()) {
            return null;
        }
        Run run = stack.peek();
        if (cell < 0) {
            long i = -1L - cell;
            return i < run.formals.size() ? run.formals.get((int) i) : null;
        }
        if (run.data.containsKey(cell)) {
            return new Part(run.data.get(cell), 8);
        }
        for (Prog a : around(run.prog)) {
            if (a.global && a.firsts.containsKey(cell)) {
                for (Run r : stack) {
                    if (r.prog == a) {
                        return new Part(r.data.get(cell), 8);
                    }
                }
                throw new AssertionError("a program runs within one that is not active");
            }
        }
        return null;
    }

    private static boolean isName(int name) {
        return 0 <= name && name <= 99;
    }

    int program(int within, int name, int marks) {
        if (within != 0 && prog(within) == null || !isName(name) || (marks & ~15) != 0) {
            return -2;
        }
        if (!stack.isEmpty()) {
            return -4;
        }
        if (within(within, name) != null) {
            return -3;
        }
        if (progs.size() == 60) {
            return -1;
        }
        Prog p = new Prog();
        p.within = within;
        p.name = name;
        p.initial = marks % 2 == 1;
        p.common = marks / 2 % 2 == 1;
        p.recursive = marks / 4 % 2 == 1;
        p.global = marks / 8 == 1;
        progs.add(p);
        p.number = progs.size();
        return p.number;
    }

    int cell(int program, long v) {
        Prog p = prog(program);
        if (p == null) {
            return -2;
        }
        if (!stack.isEmpty()) {
            return -4;
        }
        if (cells == 200) {
            return -1;
        }
        p.firsts.put(cells, v);
        if (p.data != null) {
            p.data.put(cells, new Box(v));
        }
        return cells++;
    }

    int formal(int program, int how, int size) {
        Prog p = prog(program);
        if (p == null || how < 0 || how > 3 || size < 1 || size > 8) {
            return -2;
        }
        if (!stack.isEmpty()) {
            return -4;
        }
        if (p.formals.size() == 16) {
            return -1;
        }
        p.formals.add(new Formal(how % 2 == 1, how >= 2, size));
        return p.formals.size() - 1;
    }

    int call(int from, int name) {
        prepared = null;
        arguments = new ArrayList<>();
        if (from != running() || !isName(name)) {
            return -2;
        }
        Prog p = find(from, name);
        if (p == null) {
            return -3;
        }
        if (isActive(p) && !p.recursive) {
            return -5;
        }
        if (stack.size() >= depth) {
            return -6;
        }
        prepared = p;
        return p.number;
    }

    int actual(int cell, int how) {
        if (prepared == null) {
            return -4;
        }
        Part part = null;
        if (how != 2) {
            part = visible(cell);
            if (how < 0 || how > 2 || part == null) {
                return -2;
            }
        }
        if (arguments.size() == 16) {
            return -1;
        }
        if (how == 1) {
            part = new Part(new Box(part.box.value(part.bytes)), part.bytes);
        }
        arguments.add(part);
        return arguments.size() - 1;
    }

    int enter() {
        if (prepared == null) {
            return -4;
        }
        Prog p = prepared;
        List<Part> given = arguments;
        prepared = null;
        arguments = new ArrayList<>();
        if (given.size() > p.formals.size()) {
            return -7;
        }
        while (given.size() < p.formals.size()) {
            given.add(null);
        }
        for (int i = 0; i < given.size(); i++) {
            if (given.get(i) == null && !p.formals.get(i).optional) {
                return -7;
            }
        }
        for (int i = 0; i < given.size(); i++) {
            if (given.get(i) != null && given.get(i).bytes < p.formals.get(i).bytes) {
                return -8;
            }
        }
        stack.push(runOf(p, given));
        return 1;
    }

    private static Run runOf(Prog p, List<Part> given) {
        Run run = new Run();
        run.prog = p;
        run.data = p.data == null ? p.freshData() : p.data;
        for (int i = 0; i < given.size(); i++) {
            int n = p.formals.get(i).bytes;
            Part part = given.get(i);
            if (part == null) {
                run.formals.add(null);
            } else if (p.formals.get(i).byValue) {
                run.formals.add(new Part(new Box(part.box.value(n)), n));
            } else {
                run.formals.add(new Part(part.box, n));
            }
        }
        return run;
    }

    int set(int cell, long v) {
        Part part = visible(cell);
        if (part == null) {
            return -2;
        }
        part.box.put(part.bytes, v);
        return 1;
    }

    int leave(long returns) {
        if (stack.isEmpty()) {
            return -4;
        }
        Run run = stack.pop();
        if (!run.prog.initial && !run.prog.recursive) {
            run.prog.data = run.data;
        }
        prepared = null;
        arguments = new ArrayList<>();
        returned = returns;
        return running();
    }

    long get(int cell) {
        Part part = visible(cell);
        return part == null ? THROWS : part.box.value(part.bytes);
    }

    int cancel(int from, int name) {
        if (from != running() || !isName(name)) {
            return -2;
        }
        Prog p = find(from, name);
        if (p == null) {
            return -3;
        }
        List<Prog> all = progs.stream().filter(q -> q == p || around(q).contains(p)).toList();
        if (all.stream().anyMatch(this::isActive)) {
            return -5;
        }
        int had = 0;
        for (Prog q : all) {
            had += q.data != null ? 1 : 0;
            q.data = null;
        }
        return had;
    }

    int shared(int name) {
        if (!isName(name)) {
            return -2;
        }
        if (externalNames.containsKey(name)) {
            return externalNames.get(name);
        }
        if (cells == 200) {
            return -1;
        }
        externals.put(cells, new Box(0));
        externalNames.put(name, cells);
        return cells++;
    }

    int state(int program) {
        Prog p = prog(program);
        return p == null ? -1 : isActive(p) ? 2 : p.data != null ? 1 : 0;
    }

    long returned() {
        return returned;
    }

    int count(int what) {
        return switch (what) {
            case 0 -> progs.size();
            case 1 -> cells;
            case 2 -> stack.size();
            case 3 -> running();
            case 4 -> prepared == null ? 0 : prepared.number;
            case 5 -> arguments.size();
            case 6 -> stack.isEmpty() ? 0 : stack.peek().prog.formals.size();
            default -> -1;
        };
    }

    // What follows is no call of the document; it lets a test steer its runs to where they go deep.

    boolean callable(int name) {
        Prog p = find(running(), name);
        return p != null && (p.recursive || !isActive(p));
    }

    boolean sees(int cell) {
        return visible(cell) != null;
    }

    int formalsOfPrepared() {
        return prepared == null ? 0 : prepared.formals.size();
    }
}
