/**
 * Programs that call one another, some within others: names are found by rule, arguments are shared
 * or copied, data stay from call to call or not, programs are cancelled.
 */
public final class CallRows {
    public static final int NONE = -1;

    private static final int NOT_SO = -2;
    private static final int NAME_TAKEN = -3;
    private static final int NOT_FOUND = -3;
    private static final int ONE_IS_ACTIVE = -4;
    private static final int NONE_PREPARED = -4;
    private static final int NONE_RUNNING = -4;
    private static final int STILL_ACTIVE = -5;
    private static final int TOO_DEEP = -6;
    private static final int WRONG_ARGUMENTS = -7;
    private static final int TOO_FEW_BYTES = -8;

    private static final int INITIAL = 1;
    private static final int COMMON = 2;
    private static final int RECURSIVE = 4;
    private static final int GLOBAL = 8;
    private static final int ALL_MARKS = 15;

    private static final int BY_VALUE = 1;
    private static final int OPTIONAL = 2;

    private static final int BY_REFERENCE = 0;
    private static final int BY_CONTENT = 1;
    private static final int OMITTED = 2;

    private static final int MOST_DEPTH = 65536;
    private static final int MOST_PROGRAMS = 60;
    private static final int MOST_CELLS = 200;
    private static final int MOST_FORMALS = 16;
    private static final int NAMES = 100;
    private static final int CELL_BYTES = 8;

    // The promised 512 calls enter at most 255 programs, as each takes a call() and an enter();
    // the bound keeps an object small that is used for longer.
    private static final int MOST_LEVELS = 256;

    private final int depth;
    private final Program[] programs = new Program[MOST_PROGRAMS + 1];
    private int programCount;
    private final Program[] owners = new Program[MOST_CELLS];
    private final long[] firstValues = new long[MOST_CELLS];
    private int cellCount;
    private final int[] externals = new int[NAMES];
    private final Level bottom = new Level(null);
    private Level top = bottom;
    private int active;
    private Level prepared;
    private long latestReturn;

    public CallRows(int depth) {
        this.depth = Math.max(0, Math.min(depth, MOST_DEPTH));
        for (int i = 0; i < NAMES; i++) {
            externals[i] = NONE;
        }
    }

    public int program(int within, int name, int marks) {
        boolean placeIsSo = within == 0 || programOf(within) != null;
        if (!placeIsSo || !isName(name) || marks < 0 || marks > ALL_MARKS) {
            return NOT_SO;
        }
        if (active > 0) {
            return ONE_IS_ACTIVE;
        }
        Program outer = programOf(within);
        if (directlyWithin(outer, name) != null) {
            return NAME_TAKEN;
        }
        if (programCount >= MOST_PROGRAMS) {
            return NONE;
        }
        programCount++;
        programs[programCount] = new Program(outer, programCount, name, marks);
        return programCount;
    }

    public int cell(int program, long v) {
        Program owner = programOf(program);
        if (owner == null) {
            return NOT_SO;
        }
        if (active > 0) {
            return ONE_IS_ACTIVE;
        }
        return newCell(owner, v);
    }

    public int formal(int program, int how, int size) {
        Program owner = programOf(program);
        if (owner == null || how < 0 || how > BY_VALUE + OPTIONAL || size < 1 || size > CELL_BYTES) {
            return NOT_SO;
        }
        if (active > 0) {
            return ONE_IS_ACTIVE;
        }
        if (owner.formals >= MOST_FORMALS) {
            return NONE;
        }
        owner.formalHow[owner.formals] = how;
        owner.formalBytes[owner.formals] = size;
        owner.formals++;
        return owner.formals - 1;
    }

    public int call(int from, int name) {
        // A refused call leaves nothing prepared either, so what was prepared goes first.
        prepared = null;
        if (from != numberOf(top.program) || !isName(name)) {
            return NOT_SO;
        }
        Program callee = found(top.program, name);
        if (callee == null) {
            return NOT_FOUND;
        }
        if (callee.latest != null && !callee.has(RECURSIVE)) {
            return STILL_ACTIVE;
        }
        if (active >= depth || active >= MOST_LEVELS) {
            return TOO_DEEP;
        }
        prepared = levelAbove(top);
        prepared.begin(callee);
        return callee.number;
    }

    public int actual(int cell, int how) {
        if (prepared == null) {
            return NONE_PREPARED;
        }
        if (how < BY_REFERENCE || how > OMITTED) {
            return NOT_SO;
        }
        Level holder = how == OMITTED ? null : holderOf(cell);
        if (how != OMITTED && holder == null) {
            return NOT_SO;
        }
        int i = prepared.arguments;
        if (i >= MOST_FORMALS) {
            return NONE;
        }
        if (holder != null) {
            prepared.share(i, holder, placeOf(cell), bytesOf(cell));
        }
        if (how == BY_CONTENT) {
            prepared.copy(i);
        }
        prepared.arguments++;
        return i;
    }

    public int enter() {
        Level level = prepared;
        if (level == null || level.program == null) {
            return NONE_PREPARED;
        }
        prepared = null;
        Program callee = level.program;
        if (!argumentsFit(level, callee)) {
            return WRONG_ARGUMENTS;
        }
        if (!bytesSuffice(level, callee)) {
            return TOO_FEW_BYTES;
        }
        makeFormals(level, callee);
        level.earlier = callee.latest;
        callee.latest = level;
        top = level;
        active++;
        if (!callee.keepsData()) {
            giveFirstValues(callee);
        }
        return 1;
    }

    public int set(int cell, long v) {
        Level holder = holderOf(cell);
        if (holder == null) {
            return NOT_SO;
        }
        long mask = -1L >>> unusedBits(cell);
        int place = placeOf(cell);
        holder.values[place] = (holder.values[place] & ~mask) | (v & mask);
        return 1;
    }

    public int leave(long returns) {
        Program left = top.program;
        Level below = top.below;
        if (left == null || below == null) {
            return NONE_RUNNING;
        }
        left.latest = top.earlier;
        left.hasData = left.keepsData();
        top = below;
        active--;
        prepared = null;
        latestReturn = returns;
        return numberOf(top.program);
    }

    public long get(int cell) throws IllegalArgumentException {
        Level holder = holderOf(cell);
        if (holder == null) {
            throw new IllegalArgumentException("the cell is not visible");
        }
        int unused = unusedBits(cell);
        return (holder.values[placeOf(cell)] << unused) >> unused;
    }

    public int cancel(int from, int name) {
        if (from != numberOf(top.program) || !isName(name)) {
            return NOT_SO;
        }
        Program cancelled = found(top.program, name);
        if (cancelled == null) {
            return NOT_FOUND;
        }
        if (anyActiveOf(cancelled)) {
            return STILL_ACTIVE;
        }
        return makeFresh(cancelled);
    }

    public int shared(int name) {
        if (!isName(name)) {
            return NOT_SO;
        }
        if (externals[name] == NONE) {
            externals[name] = newCell(null, 0);
        }
        return externals[name];
    }

    public int state(int program) {
        Program asked = programOf(program);
        if (asked == null) {
            return NONE;
        }
        if (asked.latest != null) {
            return 2;
        }
        return asked.hasData ? 1 : 0;
    }

    public long returned() {
        return latestReturn;
    }

    public int count(int what) {
        switch (what) {
            case 0:
                return programCount;
            case 1:
                return cellCount;
            case 2:
                return active;
            case 3:
                return numberOf(top.program);
            case 4:
                return prepared == null ? 0 : numberOf(prepared.program);
            case 5:
                return prepared == null ? 0 : prepared.arguments;
            case 6:
                return top.program == null ? 0 : top.program.formals;
            default:
                return NONE;
        }
    }

    private static boolean isName(int name) {
        return name >= 0 && name < NAMES;
    }

    private static int numberOf(Program program) {
        return program == null ? 0 : program.number;
    }

    private Program programOf(int number) {
        return number >= 1 && number <= programCount ? programs[number] : null;
    }

    /** The new cell's number, NONE when there is no room; an external cell has no owner. */
    private int newCell(Program owner, long first) {
        if (cellCount >= MOST_CELLS) {
            return NONE;
        }
        owners[cellCount] = owner;
        firstValues[cellCount] = first;
        bottom.values[placeOf(cellCount)] = first;
        cellCount++;
        return cellCount - 1;
    }

    private Program found(Program from, int name) {
        Program candidate = null;
        if (from != null) {
            candidate = directlyWithin(from, name);
            if (candidate == null) {
                candidate = recursiveAround(from, name);
            }
            if (candidate == null) {
                candidate = commonAround(from, name);
            }
        }
        return candidate != null ? candidate : directlyWithin(null, name);
    }

    private Program directlyWithin(Program outer, int name) {
        for (int i = 1; i <= programCount; i++) {
            Program candidate = programs[i];
            if (candidate != null && candidate.outer == outer && candidate.name == name) {
                return candidate;
            }
        }
        return null;
    }

    private static Program recursiveAround(Program from, int name) {
        for (Program around = from; around != null; around = around.outer) {
            if (around.has(RECURSIVE) && around.name == name) {
                return around;
            }
        }
        return null;
    }

    private Program commonAround(Program from, int name) {
        for (Program around = from.outer; around != null; around = around.outer) {
            Program candidate = directlyWithin(around, name);
            if (candidate != null && candidate.has(COMMON) && !from.isOrLiesIn(candidate)) {
                return candidate;
            }
        }
        return null;
    }

    /** Levels are made when they are first reached, and used again by later calls. */
    private static Level levelAbove(Level level) {
        if (level.above == null) {
            level.above = new Level(level);
        }
        return level.above;
    }

    /** The level whose values hold a visible cell or formal; null when it is not visible. */
    private Level holderOf(int cell) {
        Program running = top.program;
        if (cell < 0) {
            return isFormal(cell) ? top.holders[-1 - cell] : null;
        }
        if (cell >= cellCount) {
            return null;
        }
        Program owner = owners[cell];
        if (owner == null) {
            return bottom;
        }
        return running != null && seesCellsOf(running, owner) ? dataOf(owner) : null;
    }

    private static boolean seesCellsOf(Program running, Program owner) {
        return running == owner || (owner.has(GLOBAL) && running.isOrLiesIn(owner));
    }

    /** Whether the number tells a formal of the running program, be it omitted or not. */
    private boolean isFormal(int cell) {
        Program running = top.program;
        return running != null && cell < 0 && -1 - cell < running.formals;
    }

    /** Where the holder of a visible cell or formal has its value. */
    private int placeOf(int cell) {
        return isFormal(cell) ? top.places[-1 - cell] : MOST_FORMALS + cell;
    }

    private int bytesOf(int cell) {
        return isFormal(cell) ? top.bytes[-1 - cell] : CELL_BYTES;
    }

    private int unusedBits(int cell) {
        return 8 * (CELL_BYTES - bytesOf(cell));
    }

    /** Data that stay are in the bottom level, those of one call in the level of that call. */
    private Level dataOf(Program program) {
        return program.has(RECURSIVE) && program.latest != null ? program.latest : bottom;
    }

    private void giveFirstValues(Program program) {
        Level data = dataOf(program);
        for (int i = 0; i < cellCount; i++) {
            if (owners[i] == program) {
                data.values[placeOf(i)] = firstValues[i];
            }
        }
    }

    private static boolean argumentsFit(Level level, Program callee) {
        if (level.arguments > callee.formals) {
            return false;
        }
        for (int i = 0; i < callee.formals; i++) {
            if (level.holders[i] == null && (callee.formalHow[i] & OPTIONAL) == 0) {
                return false;
            }
        }
        return true;
    }

    private static boolean bytesSuffice(Level level, Program callee) {
        for (int i = 0; i < callee.formals; i++) {
            if (level.holders[i] != null && level.bytes[i] < callee.formalBytes[i]) {
                return false;
            }
        }
        return true;
    }

    private static void makeFormals(Level level, Program callee) {
        for (int i = 0; i < callee.formals; i++) {
            level.bytes[i] = callee.formalBytes[i];
            if ((callee.formalHow[i] & BY_VALUE) != 0) {
                level.copy(i);
            }
        }
    }

    private boolean anyActiveOf(Program cancelled) {
        for (int i = 1; i <= programCount; i++) {
            Program one = programs[i];
            if (one != null && one.latest != null && one.isOrLiesIn(cancelled)) {
                return true;
            }
        }
        return false;
    }

    /** How many of the programs, the cancelled one and those in it, had data. */
    private int makeFresh(Program cancelled) {
        int hadData = 0;
        for (int i = 1; i <= programCount; i++) {
            Program one = programs[i];
            if (one != null && one.isOrLiesIn(cancelled)) {
                hadData += one.hasData ? 1 : 0;
                one.hasData = false;
                giveFirstValues(one);
            }
        }
        return hadData;
    }

    private static final class Program {
        final Program outer;
        final int number;
        final int name;
        final int marks;
        final int[] formalHow = new int[MOST_FORMALS];
        final int[] formalBytes = new int[MOST_FORMALS];
        int formals;
        boolean hasData;
        // The level of its latest active call; null when it is not active.
        Level latest;

        Program(Program outer, int number, int name, int marks) {
            this.outer = outer;
            this.number = number;
            this.name = name;
            this.marks = marks;
        }

        boolean has(int mark) {
            return (marks & mark) != 0;
        }

        boolean keepsData() {
            return !has(INITIAL) && !has(RECURSIVE);
        }

        boolean isOrLiesIn(Program other) {
            for (Program around = this; around != null; around = around.outer) {
                if (around == other) {
                    return true;
                }
            }
            return false;
        }
    }

    /**
     * One call, prepared or active; the bottom level is of no call. The values are first a copy for
     * each formal, then a place for each cell: every level has the same places, so that a cell's
     * number tells its place in all of them.
     */
    private static final class Level {
        final Level below;
        Level above;
        Program program;
        // The level of the same program's active call before this one; null when there is none.
        Level earlier;
        int arguments;
        // Where each argument, and then its formal, has its bytes, and how many; no holder when it is
        // omitted.
        final Level[] holders = new Level[MOST_FORMALS];
        final int[] places = new int[MOST_FORMALS];
        final int[] bytes = new int[MOST_FORMALS];
        final long[] values = new long[MOST_FORMALS + MOST_CELLS];

        Level(Level below) {
            this.below = below;
        }

        void begin(Program callee) {
            program = callee;
            arguments = 0;
            for (int i = 0; i < MOST_FORMALS; i++) {
                holders[i] = null;
            }
        }

        void share(int i, Level holder, int place, int size) {
            holders[i] = holder;
            places[i] = place;
            bytes[i] = size;
        }

        /** The argument stands from now on for a copy of what it stood for. */
        void copy(int i) {
            Level holder = holders[i];
            if (holder != null) {
                values[i] = holder.values[places[i]];
                holders[i] = this;
                places[i] = i;
            }
        }
    }
}
