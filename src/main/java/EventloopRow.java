import java.util.Arrays;
import java.util.NoSuchElementException;

/** A language of objects and jobs; ../shared/DOC.md says what each call does. */
public final class EventloopRow {
    private static final int NONE = -1;
    private static final int MOST_OBJECTS = 12;
    private static final int MOST_PASSED = 30;
    private static final int KEYS = 20;
    private static final int SMALL_KEYS = 10;
    private static final int MOST_VALUE = 9999;

    private static final int WRITTEN = 1;
    private static final int LISTED = 2;
    private static final int CONFIGURED = 4;
    private static final int ALL_RIGHTS = 7;

    private static final int ANSWERS = 4;
    private static final int GETTING = 0;
    private static final int ASKING = 1;
    private static final int SETTING = 2;
    private static final int DELETING = 3;
    // Beyond every value that can be told.
    private static final int NOT_TOLD = 1000000;

    private static final int MOST_FUNCTIONS = 8;
    private static final int MOST_INSTRUCTIONS = 16;
    private static final int REGISTERS = 4;
    private static final int FIRST_HANDLERS = 4;
    private static final int MOST_RUNS = 30;
    private static final int MOST_PROMISES = 60;
    private static final int MOST_TASKS = 30;
    private static final int MOST_TURNS = 10;
    private static final int MOST_SPENT = 300;
    private static final int MOST_TRACED = 400;
    private static final int MOST_DELAY = 9999;

    private static final int THROWN_FAULT = 90;
    private static final int THROWN_NO = 91;
    private static final int THROWN_KIND = 92;
    private static final int THROWN_FULL = 93;
    private static final int THROWN_ITSELF = 94;
    private static final int THROWN_MISSING = 95;
    private static final int THROWN_DEEP = 96;

    private static final int TRACED_PROMISE = 10000;
    private static final int TRACED_END = 20000;
    private static final int TRACED_REJECTION = 30000;
    private static final int TRACED_STOP = 99999;

    // Numbers are ints, so what stands at 2^32 and above in a long is free for other meanings.
    private static final long PROMISE = 1L << 32;
    private static final long FAULT = 1L << 40;
    private static final long FINE = 1L << 41;

    private static final int JOB_FUNCTION = 0;
    private static final int JOB_GO_ON = 1;
    private static final int JOB_REACTION = 2;
    private static final int JOB_ADOPT = 3;
    private static final int JOB_ALIKE = 4;
    private static final int JOB_PART = 5;

    private static final int BLOCK = 256;
    private static final int FIRST_BLOCKS = 4;
    // 512 calls of 10 turns of 300 instructions set fewer timers than this.
    private static final int MOST_TIMERS = 1 << 21;
    // Far above what one turn can need: its jobs come from at most 300 instructions.
    private static final int MANY = 1000000;

    private final Things things;
    private final JobRow jobRow;
    private final PromiseRow promiseRow;
    private final Loop loop;

    public EventloopRow() {
        things = new Things();
        jobRow = new JobRow();
        promiseRow = new PromiseRow(jobRow);
        loop = new Loop(things, jobRow, promiseRow);
    }

    // ---- objects

    public int addObject(int chain) throws IndexOutOfBoundsException, IllegalStateException {
        if (chain != NONE && things.find(chain) == null) {
            throw new IndexOutOfBoundsException("no such object");
        }
        if (things.isFull()) {
            throw new IllegalStateException("there are 12 objects");
        }
        return things.append(new Thing(null, things.find(chain)));
    }

    public int addProxy(int target) throws IndexOutOfBoundsException, IllegalStateException {
        Thing behind = things.find(target);
        if (behind == null) {
            throw new IndexOutOfBoundsException("no such object");
        }
        if (things.isFull()) {
            throw new IllegalStateException("there are 12 objects");
        }
        return things.append(new Thing(behind, null));
    }

    public boolean tell(int proxy, char what, int answer)
            throws IndexOutOfBoundsException, IllegalArgumentException, IllegalStateException {
        Thing thing = things.find(proxy);
        if (thing == null) {
            throw new IndexOutOfBoundsException("no such object");
        }
        int kind = kindOf(what);
        if (kind == NONE || !isAnswer(kind, answer)) {
            throw new IllegalArgumentException("no such letter, or the answer is out of range");
        }
        if (!thing.isProxy()) {
            throw new IllegalStateException("it is no proxy");
        }
        boolean before = thing.isTold(kind);
        thing.keepAnswer(kind, answer);
        return before;
    }

    public boolean revoke(int proxy) throws IndexOutOfBoundsException, IllegalStateException {
        Thing thing = things.find(proxy);
        if (thing == null) {
            throw new IndexOutOfBoundsException("no such object");
        }
        if (!thing.isProxy()) {
            throw new IllegalStateException("it is no proxy");
        }
        boolean before = thing.revoked;
        thing.revoked = true;
        return before;
    }

    public char define(int object, int key, int value, int rights)
            throws IndexOutOfBoundsException, IllegalArgumentException {
        Thing thing = things.find(object);
        if (thing == null || !isKey(key)) {
            throw new IndexOutOfBoundsException("no such object or key");
        }
        if (!isValue(value) || rights < 0 || rights > ALL_RIGHTS) {
            throw new IllegalArgumentException("the value or the rights are out of range");
        }
        Thing plain = things.plainBehind(thing);
        return plain == null ? 'T' : plain.putIn(key, value, rights);
    }

    public char set(int object, int key, int value) throws IndexOutOfBoundsException, IllegalArgumentException {
        Thing thing = things.find(object);
        if (thing == null || !isKey(key)) {
            throw new IndexOutOfBoundsException("no such object or key");
        }
        if (!isValue(value)) {
            throw new IllegalArgumentException("the value is out of range");
        }
        return things.setFrom(thing, key, value);
    }

    public int get(int object, int key) throws IndexOutOfBoundsException, UnsupportedOperationException {
        Thing thing = things.find(object);
        if (thing == null || !isKey(key)) {
            throw new IndexOutOfBoundsException("no such object or key");
        }
        long value = things.getFrom(thing, key);
        if (value == FAULT) {
            throw new UnsupportedOperationException("the fault T");
        }
        return (int) value;
    }

    public char has(int object, int key) throws IndexOutOfBoundsException {
        Thing thing = things.find(object);
        if (thing == null || !isKey(key)) {
            throw new IndexOutOfBoundsException("no such object or key");
        }
        return things.askFrom(thing, key);
    }

    public char delete(int object, int key) throws IndexOutOfBoundsException {
        Thing thing = things.find(object);
        if (thing == null || !isKey(key)) {
            throw new IndexOutOfBoundsException("no such object or key");
        }
        return things.deleteFrom(thing, key);
    }

    public char closeObject(int object) throws IndexOutOfBoundsException {
        Thing thing = things.find(object);
        if (thing == null) {
            throw new IndexOutOfBoundsException("no such object");
        }
        Thing plain = things.plainBehind(thing);
        if (plain == null) {
            return 'T';
        }
        plain.closed = true;
        return 'y';
    }

    public char setChain(int object, int chain) throws IndexOutOfBoundsException {
        Thing thing = things.find(object);
        Thing next = things.find(chain);
        if (thing == null || (next == null && chain != NONE)) {
            throw new IndexOutOfBoundsException("no such object");
        }
        Thing plain = things.plainBehind(thing);
        return plain == null ? 'T' : things.chainTo(plain, next);
    }

    public int keys(int object) throws IndexOutOfBoundsException, UnsupportedOperationException {
        Thing thing = things.find(object);
        if (thing == null) {
            throw new IndexOutOfBoundsException("no such object");
        }
        Thing plain = things.plainBehind(thing);
        if (plain == null) {
            throw new UnsupportedOperationException("the fault T");
        }
        return plain.keyCount;
    }

    public int keyAt(int object, int index)
            throws IndexOutOfBoundsException, UnsupportedOperationException, NoSuchElementException {
        Thing thing = things.find(object);
        if (thing == null) {
            throw new IndexOutOfBoundsException("no such object");
        }
        Thing plain = things.plainBehind(thing);
        if (plain == null) {
            throw new UnsupportedOperationException("the fault T");
        }
        int key = plain.listedAt(index);
        if (key == NONE) {
            throw new NoSuchElementException("no such index");
        }
        return key;
    }

    public int rights(int object, int key)
            throws IndexOutOfBoundsException, UnsupportedOperationException, NoSuchElementException {
        Thing thing = things.find(object);
        if (thing == null || !isKey(key)) {
            throw new IndexOutOfBoundsException("no such object or key");
        }
        Thing plain = things.plainBehind(thing);
        if (plain == null) {
            throw new UnsupportedOperationException("the fault T");
        }
        int own = plain.rightsOf(key);
        if (own == NONE) {
            throw new NoSuchElementException("no such property");
        }
        return own;
    }

    // ---- functions and tasks

    public int addFunction() throws IllegalStateException {
        if (loop.functionCount >= MOST_FUNCTIONS || loop.turnCount > 0) {
            throw new IllegalStateException("there are 8 functions, or a turn was done");
        }
        return loop.newFunction();
    }

    public int add(int function, char letter, int a, int b, int c)
            throws IndexOutOfBoundsException, IllegalArgumentException, IllegalStateException {
        if (!loop.isFunction(function)) {
            throw new IndexOutOfBoundsException("no such function");
        }
        if (!isInstruction(letter, a, b, c)) {
            throw new IllegalArgumentException("no such letter, or a number is out of range");
        }
        if (loop.lengthOf(function) >= MOST_INSTRUCTIONS || loop.turnCount > 0) {
            throw new IllegalStateException("there are 16 instructions, or a turn was done");
        }
        return loop.appendTo(function, new Instruction(letter, a, b, c));
    }

    public int post(int function) throws IndexOutOfBoundsException, IllegalStateException {
        if (!loop.isFunction(function)) {
            throw new IndexOutOfBoundsException("no such function");
        }
        if (loop.tasksAdded >= MOST_TASKS) {
            throw new IllegalStateException("30 tasks were added");
        }
        return loop.newTask(function);
    }

    public int turn(int turns) throws IllegalArgumentException {
        if (turns < 1 || turns > MOST_TURNS) {
            throw new IllegalArgumentException("the number of turns is out of range");
        }
        int done = 0;
        while (done < turns && loop.hasWork()) {
            loop.oneTurn();
            done++;
        }
        return done;
    }

    // ---- what has been

    public int time() {
        return loop.now;
    }

    public int timers() {
        return loop.timerHeap.count;
    }

    public long traced() {
        return loop.traceCount;
    }

    public int traceAt(int index) throws IndexOutOfBoundsException {
        if (index < 0 || index >= MOST_TRACED || index >= loop.traceCount) {
            throw new IndexOutOfBoundsException("no such number, or it is counted alone");
        }
        return loop.traceRow[index];
    }

    public int promises() {
        return promiseRow.count;
    }

    public char stateOf(int promise) throws IndexOutOfBoundsException {
        Promise asked = promiseRow.find(promise);
        if (asked == null) {
            throw new IndexOutOfBoundsException("no such promise");
        }
        return asked.state;
    }

    public int numberOf(int promise) throws IndexOutOfBoundsException, NoSuchElementException {
        Promise asked = promiseRow.find(promise);
        if (asked == null) {
            throw new IndexOutOfBoundsException("no such promise");
        }
        if (asked.state == 'w') {
            throw new NoSuchElementException("it waits");
        }
        return asked.number;
    }

    public int unhandled() {
        return promiseRow.unhandledCount;
    }

    public int late() {
        return promiseRow.lateCount;
    }

    public int jobs() {
        return loop.jobsRun;
    }

    // ---- figures

    public float waitingShare() throws ArithmeticException {
        int all = promiseRow.count;
        if (all == 0) {
            throw new ArithmeticException("there are no promises");
        }
        return (float) promiseRow.waitingCount() / (float) all;
    }

    public double meanInstructions() throws ArithmeticException {
        if (loop.turnCount == 0) {
            throw new ArithmeticException("no turn was done");
        }
        return (double) loop.spentInAll / (double) loop.turnCount;
    }

    public boolean isSound() {
        return promiseRow.isSettledClean() && !jobRow.hasJob() && things.areListed();
    }

    // ---- what a number may be

    private static boolean isKey(int key) {
        return key >= 0 && key < KEYS;
    }

    private static boolean isValue(int value) {
        return value >= -MOST_VALUE && value <= MOST_VALUE;
    }

    private static boolean isRegister(int register) {
        return register >= 0 && register < REGISTERS;
    }

    private static boolean isPlace(int place) {
        return place >= 0 && place <= MOST_INSTRUCTIONS;
    }

    private static boolean isFunctionNumber(int function) {
        return function >= 0 && function < MOST_FUNCTIONS;
    }

    private static boolean isObjectNumber(int object) {
        return object >= 0 && object < MOST_OBJECTS;
    }

    private static int kindOf(char what) {
        switch (what) {
            case 'g': return GETTING;
            case 'h': return ASKING;
            case 's': return SETTING;
            case 'd': return DELETING;
            default: return NONE;
        }
    }

    private static boolean isAnswer(int kind, int answer) {
        return kind == GETTING ? isValue(answer) : answer == 0 || answer == 1;
    }

    private static boolean isInstruction(char letter, int a, int b, int c) {
        switch (letter) {
            case 'v':
                return isRegister(a) && isValue(b);
            case '+': case 'm': case 'R': case 'X':
                return isRegister(a) && isRegister(b);
            case 'l': case 'T': case 'p': case 'w': case 'x':
                return isRegister(a);
            case 'z':
                return isRegister(a) && isPlace(b);
            case 'j': case 'b':
                return isPlace(b);
            case 'e':
                return true;
            case 'g': case 's':
                return isRegister(a) && isObjectNumber(b) && isKey(c);
            case 'h':
                return isRegister(a) && (b == NONE || isFunctionNumber(b)) && (c == NONE || isFunctionNumber(c));
            case 'c': case 't':
                return isRegister(a) && isFunctionNumber(b);
            case 'q':
                return isFunctionNumber(b);
            case 'A':
                return isRegister(a) && isRegister(b) && isRegister(c) && b <= c;
            default:
                return false;
        }
    }

    private static boolean isPromise(long value) {
        return value >= PROMISE;
    }

    private static int promiseIn(long value) {
        return (int) (value - PROMISE);
    }

    /** A plain object, or a proxy, which alone has a target. */
    private static final class Thing {
        final Thing target;
        final int[] answers;
        boolean revoked;
        Thing chain;
        boolean closed;
        final int[] values;
        final int[] rightsRow;
        final int[] keyRow;
        int keyCount;

        Thing(Thing target, Thing chain) {
            this.target = target;
            this.chain = chain;
            answers = new int[ANSWERS];
            values = new int[KEYS];
            rightsRow = new int[KEYS];
            keyRow = new int[KEYS];
            Arrays.fill(answers, NOT_TOLD);
            Arrays.fill(rightsRow, NONE);
        }

        boolean isProxy() {
            return target != null;
        }

        int answerTo(int kind) {
            return kind < 0 || kind >= ANSWERS ? NOT_TOLD : answers[kind];
        }

        boolean isTold(int kind) {
            return answerTo(kind) != NOT_TOLD;
        }

        void keepAnswer(int kind, int answer) {
            if (kind >= 0 && kind < ANSWERS) {
                answers[kind] = answer;
            }
        }

        int rightsOf(int key) {
            return key < 0 || key >= KEYS ? NONE : rightsRow[key];
        }

        int valueOf(int key) {
            return key < 0 || key >= KEYS ? 0 : values[key];
        }

        boolean holds(int key) {
            return key >= 0 && key < KEYS && rightsRow[key] != NONE;
        }

        boolean canBe(int right, int key) {
            return key >= 0 && key < KEYS && rightsRow[key] != NONE && (rightsRow[key] & right) != 0;
        }

        /** Whether it has promised that the key keeps another value than this one. */
        boolean keepsOther(int key, int value) {
            return holds(key) && !canBe(WRITTEN, key) && !canBe(CONFIGURED, key) && valueOf(key) != value;
        }

        /** Whether it has promised that the key stays. */
        boolean keepsKey(int key) {
            return holds(key) && (closed || !canBe(CONFIGURED, key));
        }

        char putIn(int key, int value, int rights) {
            if (key < 0 || key >= KEYS) {
                return 'n';
            }
            if (!holds(key)) {
                if (closed) {
                    return 'n';
                }
                listKey(key);
            } else if (!canBe(CONFIGURED, key) && !isAllowed(rightsRow[key], rights, values[key] == value)) {
                return 'n';
            }
            values[key] = value;
            rightsRow[key] = rights;
            return 'y';
        }

        /** Whether a property that cannot be configured may get these rights, and its value or another one. */
        private static boolean isAllowed(int own, int rights, boolean sameValue) {
            if ((rights & CONFIGURED) != 0 || ((rights ^ own) & LISTED) != 0) {
                return false;
            }
            return (own & WRITTEN) != 0 || ((rights & WRITTEN) == 0 && sameValue);
        }

        private void listKey(int key) {
            if (keyCount < 0 || keyCount >= KEYS) {
                return;
            }
            int place = keyCount;
            while (place > 0 && key < SMALL_KEYS && keyRow[place - 1] > key) {
                keyRow[place] = keyRow[place - 1];
                place--;
            }
            keyRow[place] = key;
            keyCount++;
        }

        int listedAt(int index) {
            return index < 0 || index >= keyCount || index >= KEYS ? NONE : keyRow[index];
        }

        char takeOut(int key) {
            if (!holds(key)) {
                return 'y';
            }
            if (!canBe(CONFIGURED, key)) {
                return 'n';
            }
            if (key >= 0 && key < KEYS) {
                rightsRow[key] = NONE;
            }
            int kept = 0;
            for (int i = 0; i < keyCount && i < KEYS; i++) {
                if (keyRow[i] != key) {
                    keyRow[kept] = keyRow[i];
                    kept++;
                }
            }
            keyCount = kept;
            return 'y';
        }

        boolean isListed() {
            int held = 0;
            for (int key = 0; key < KEYS; key++) {
                held += holds(key) ? 1 : 0;
            }
            if (held != keyCount) {
                return false;
            }
            for (int i = 0; i < keyCount; i++) {
                int key = listedAt(i);
                if (!holds(key) || !isInOrder(i, key)) {
                    return false;
                }
            }
            return true;
        }

        private boolean isInOrder(int index, int key) {
            for (int i = 0; i < index; i++) {
                int earlier = listedAt(i);
                if (earlier == key || (key < SMALL_KEYS && earlier > key)) {
                    return false;
                }
            }
            return true;
        }
    }

    /** The objects, and what is done with one of them on the way along targets and chains. */
    private static final class Things {
        private final Thing[] row = new Thing[MOST_OBJECTS];
        private int count;

        Thing find(int number) {
            return number < 0 || number >= count || number >= MOST_OBJECTS ? null : row[number];
        }

        boolean isFull() {
            return count >= MOST_OBJECTS;
        }

        int append(Thing thing) {
            if (count < 0 || count >= MOST_OBJECTS) {
                return NONE;
            }
            row[count] = thing;
            count++;
            return count - 1;
        }

        /** The plain object that an object is or hands on to; null if a proxy on the way is revoked. */
        Thing plainBehind(Thing thing) {
            Thing here = thing;
            for (int i = 0; i < MOST_OBJECTS && here != null; i++) {
                if (!here.isProxy()) {
                    return here;
                }
                here = here.revoked ? null : here.target;
            }
            return null;
        }

        long getFrom(Thing thing, int key) {
            Thing here = thing;
            for (int i = 0; i < MOST_PASSED && here != null; i++) {
                if (here.isProxy()) {
                    if (here.revoked) {
                        return FAULT;
                    }
                    if (here.isTold(GETTING)) {
                        int answer = here.answerTo(GETTING);
                        Thing plain = plainBehind(here.target);
                        return plain == null || plain.keepsOther(key, answer) ? FAULT : answer;
                    }
                    here = here.target;
                } else if (here.holds(key)) {
                    return here.valueOf(key);
                } else {
                    here = here.chain;
                }
            }
            return here == null ? 0 : FAULT;
        }

        char askFrom(Thing thing, int key) {
            Thing here = thing;
            for (int i = 0; i < MOST_PASSED && here != null; i++) {
                if (here.isProxy()) {
                    if (here.revoked) {
                        return 'T';
                    }
                    if (here.isTold(ASKING)) {
                        boolean yes = here.answerTo(ASKING) == 1;
                        Thing plain = plainBehind(here.target);
                        return plain == null || (!yes && plain.keepsKey(key)) ? 'T' : yesOrNo(yes);
                    }
                    here = here.target;
                } else if (here.holds(key)) {
                    return 'y';
                } else {
                    here = here.chain;
                }
            }
            return here == null ? 'n' : 'T';
        }

        char setFrom(Thing receiver, int key, int value) {
            Thing here = receiver;
            for (int i = 0; i < MOST_PASSED && here != null; i++) {
                if (here.isProxy()) {
                    if (here.revoked) {
                        return 'T';
                    }
                    if (here.isTold(SETTING)) {
                        boolean yes = here.answerTo(SETTING) == 1;
                        Thing plain = plainBehind(here.target);
                        return plain == null || (yes && plain.keepsOther(key, value)) ? 'T' : yesOrNo(yes);
                    }
                    here = here.target;
                } else if (here.holds(key)) {
                    return here.canBe(WRITTEN, key) ? receive(receiver, key, value) : 'n';
                } else {
                    here = here.chain;
                }
            }
            return here == null ? receive(receiver, key, value) : 'T';
        }

        private char receive(Thing receiver, int key, int value) {
            Thing plain = plainBehind(receiver);
            if (plain == null) {
                return 'T';
            }
            if (!plain.holds(key)) {
                return plain.putIn(key, value, ALL_RIGHTS);
            }
            return plain.canBe(WRITTEN, key) ? plain.putIn(key, value, plain.rightsOf(key)) : 'n';
        }

        char deleteFrom(Thing thing, int key) {
            Thing here = thing;
            for (int i = 0; i < MOST_OBJECTS && here != null; i++) {
                if (!here.isProxy()) {
                    return here.takeOut(key);
                }
                if (here.revoked) {
                    return 'T';
                }
                if (here.isTold(DELETING)) {
                    boolean yes = here.answerTo(DELETING) == 1;
                    Thing plain = plainBehind(here.target);
                    return plain == null || (yes && plain.keepsKey(key)) ? 'T' : yesOrNo(yes);
                }
                here = here.target;
            }
            return 'T';
        }

        char chainTo(Thing plain, Thing next) {
            if (plain.chain == next) {
                return 'y';
            }
            if (plain.closed) {
                return 'n';
            }
            Thing here = next;
            for (int i = 0; i <= MOST_OBJECTS && here != null && !here.isProxy(); i++) {
                if (here == plain) {
                    return 'n';
                }
                here = here.chain;
            }
            plain.chain = next;
            return 'y';
        }

        private static char yesOrNo(boolean yes) {
            return yes ? 'y' : 'n';
        }

        boolean areListed() {
            for (int i = 0; i < count; i++) {
                Thing thing = find(i);
                if (thing != null && !thing.isProxy() && !thing.isListed()) {
                    return false;
                }
            }
            return true;
        }
    }

    /** An instruction of a function. */
    private static final class Instruction {
        final char letter;
        final int a;
        final int b;
        final int c;

        Instruction(char letter, int a, int b, int c) {
            this.letter = letter;
            this.a = a;
            this.b = b;
            this.c = c;
        }
    }

    /** A function that runs or waits; a run that has ended is used again for another one. */
    private static final class Run {
        int function;
        int place;
        final long[] registers = new long[REGISTERS];
        int[] handlers = new int[FIRST_HANDLERS];
        int handlerCount;
        int promise;
        int depth;
        int waitingRegister;
        // The run that has called this one; among the free runs, the next free one.
        Run caller;

        void begin(int newFunction, int newPromise) {
            function = newFunction;
            place = 0;
            handlerCount = 0;
            promise = newPromise;
            depth = 1;
            caller = null;
            Arrays.fill(registers, 0L);
        }

        long read(int register) {
            return isRegister(register) ? registers[register] : 0L;
        }

        void write(int register, long value) {
            if (isRegister(register)) {
                registers[register] = value;
            }
        }

        void pushHandler(int newPlace) {
            if (handlerCount < 0 || handlerCount >= MANY) {
                return;
            }
            if (handlerCount >= handlers.length) {
                handlers = Arrays.copyOf(handlers, handlerCount * 2 + 1);
            }
            handlers[handlerCount] = newPlace;
            handlerCount++;
        }

        int popHandler() {
            if (handlerCount <= 0 || handlerCount > handlers.length) {
                return NONE;
            }
            handlerCount--;
            return handlers[handlerCount];
        }
    }

    /** A job; while it waits at a promise, until it is known what the promise has, it is a reaction. */
    private static final class Job {
        int kind;
        int function;
        int functionRejected;
        int promise;
        int source;
        Run run;
        boolean rejected;
        int number;
        Job next;
    }

    /** The jobs that wait, the first one first, and those that have run and are used again. */
    private static final class JobRow {
        private Job first;
        private Job last;
        private Job free;

        Job make(int kind) {
            Job job = free;
            if (job == null) {
                job = new Job();
            } else {
                free = job.next;
            }
            job.kind = kind;
            job.function = NONE;
            job.functionRejected = NONE;
            job.promise = NONE;
            job.source = NONE;
            job.run = null;
            job.rejected = false;
            job.number = 0;
            job.next = null;
            return job;
        }

        boolean hasJob() {
            return first != null;
        }

        void append(Job job) {
            job.next = null;
            if (last == null) {
                first = job;
            } else {
                last.next = job;
            }
            last = job;
        }

        Job takeFirst() {
            Job job = first;
            if (job != null) {
                first = job.next;
                job.next = null;
                if (first == null) {
                    last = null;
                }
            }
            return job;
        }

        void giveBack(Job job) {
            job.run = null;
            job.next = free;
            free = job;
        }
    }

    /** A promise; what it was resolved with may still wait when it is resolved. */
    private static final class Promise {
        char state = 'w';
        boolean resolved;
        int number;
        boolean handled;
        boolean told;
        Job first;
        Job last;
        // Of a promise for all: the sum so far, and how many are missing.
        int sum;
        int missing;
    }

    /** The promises, and their rejections in the order in which they came. */
    private static final class PromiseRow {
        private final Promise[] row = new Promise[MOST_PROMISES];
        private int count;
        private final int[] rejections = new int[MOST_PROMISES];
        private int rejectionCount;
        private int lookedAt;
        private int unhandledCount;
        private int lateCount;
        private final JobRow jobRow;

        PromiseRow(JobRow jobRow) {
            this.jobRow = jobRow;
        }

        Promise find(int number) {
            return number < 0 || number >= count || number >= MOST_PROMISES ? null : row[number];
        }

        boolean hasRoomFor(int more) {
            return count + more <= MOST_PROMISES;
        }

        int append(Promise promise) {
            if (count < 0 || count >= MOST_PROMISES) {
                return NONE;
            }
            row[count] = promise;
            count++;
            return count - 1;
        }

        void resolve(int which, long with) {
            Promise promise = find(which);
            if (promise == null || promise.resolved) {
                return;
            }
            promise.resolved = true;
            if (!isPromise(with)) {
                settle(which, false, (int) with);
            } else if (promiseIn(with) == which) {
                settle(which, true, THROWN_ITSELF);
            } else {
                Job job = jobRow.make(JOB_ADOPT);
                job.promise = which;
                job.source = promiseIn(with);
                jobRow.append(job);
            }
        }

        void reject(int which, int number) {
            Promise promise = find(which);
            if (promise != null && !promise.resolved) {
                promise.resolved = true;
                settle(which, true, number);
            }
        }

        /** Fulfils or rejects a promise, which may have been resolved with another one before. */
        void settle(int which, boolean rejected, int number) {
            Promise promise = find(which);
            if (promise == null || promise.state != 'w') {
                return;
            }
            promise.state = rejected ? 'r' : 'f';
            promise.number = number;
            if (rejected && rejectionCount >= 0 && rejectionCount < MOST_PROMISES) {
                rejections[rejectionCount] = which;
                rejectionCount++;
            }
            Job job = promise.first;
            promise.first = null;
            promise.last = null;
            while (job != null) {
                Job next = job.next;
                job.rejected = rejected;
                job.number = number;
                jobRow.append(job);
                job = next;
            }
        }

        void putReaction(int which, Job job) {
            Promise promise = find(which);
            if (promise == null) {
                return;
            }
            if (promise.told && !promise.handled) {
                unhandledCount--;
                lateCount++;
            }
            promise.handled = true;
            if (promise.state != 'w') {
                job.rejected = promise.state == 'r';
                job.number = promise.number;
                jobRow.append(job);
                return;
            }
            job.next = null;
            if (promise.last == null) {
                promise.first = job;
            } else {
                promise.last.next = job;
            }
            promise.last = job;
        }

        /** The next promise to be told as not handled, or none, by which the look ends. */
        int nextUnhandled() {
            while (lookedAt >= 0 && lookedAt < rejectionCount && lookedAt < MOST_PROMISES) {
                int which = rejections[lookedAt];
                lookedAt++;
                Promise promise = find(which);
                if (promise != null && !promise.handled) {
                    promise.told = true;
                    unhandledCount++;
                    return which;
                }
            }
            return NONE;
        }

        int waitingCount() {
            int waiting = 0;
            for (int i = 0; i < count; i++) {
                Promise promise = find(i);
                waiting += promise != null && promise.state == 'w' ? 1 : 0;
            }
            return waiting;
        }

        boolean isSettledClean() {
            for (int i = 0; i < count; i++) {
                Promise promise = find(i);
                if (promise != null && promise.state != 'w' && promise.first != null) {
                    return false;
                }
            }
            return true;
        }
    }

    /** Some of the timers. */
    private static final class TimerBlock {
        final long[] cells = new long[BLOCK];
    }

    /** The timers in a heap: each is one number, by its time, then by when it was set, then its function. */
    private static final class TimerHeap {
        private static final int TIME_SHIFT = 33;
        private static final int SERIAL_SHIFT = 3;
        private static final int MASK = (1 << 30) - 1;

        // Blocks, and not one long row, so that a heap that grows is not copied.
        private TimerBlock[] blocks = new TimerBlock[FIRST_BLOCKS];
        private int count;
        private int serial;

        private long cellAt(int place) {
            if (place < 0 || place / BLOCK >= blocks.length) {
                return 0L;
            }
            TimerBlock block = blocks[place / BLOCK];
            return block == null ? 0L : block.cells[place % BLOCK];
        }

        private void fillCell(int place, long timer) {
            if (place < 0 || place / BLOCK >= blocks.length) {
                return;
            }
            TimerBlock block = blocks[place / BLOCK];
            if (block != null) {
                block.cells[place % BLOCK] = timer;
            }
        }

        private void makeRoomAt(int place) {
            int number = place / BLOCK;
            if (number < 0 || number > blocks.length) {
                return;
            }
            if (number == blocks.length) {
                TimerBlock[] more = new TimerBlock[number * 2];
                for (int i = 0; i < number; i++) {
                    more[i] = blocks[i];
                }
                blocks = more;
            }
            if (blocks[number] == null) {
                blocks[number] = new TimerBlock();
            }
        }

        void plant(int due, int function) {
            if (count < 0 || count >= MOST_TIMERS) {
                return;
            }
            long timer = ((long) (due & MASK) << TIME_SHIFT) | ((long) (serial & MASK) << SERIAL_SHIFT)
                    | (long) (function & (MOST_FUNCTIONS - 1));
            serial++;
            int place = count;
            makeRoomAt(place);
            count++;
            while (place > 0 && cellAt((place - 1) / 2) > timer) {
                fillCell(place, cellAt((place - 1) / 2));
                place = (place - 1) / 2;
            }
            fillCell(place, timer);
        }

        long takeEarliest() {
            long earliest = cellAt(0);
            if (count <= 0) {
                return earliest;
            }
            count--;
            long last = cellAt(count);
            int place = 0;
            int child = 1;
            while (child < count) {
                if (child + 1 < count && cellAt(child + 1) < cellAt(child)) {
                    child++;
                }
                if (cellAt(child) >= last) {
                    break;
                }
                fillCell(place, cellAt(child));
                place = child;
                child = 2 * place + 1;
            }
            fillCell(place, last);
            return earliest;
        }

        static int dueOf(long timer) {
            return (int) (timer >>> TIME_SHIFT);
        }

        static int functionOf(long timer) {
            return (int) (timer & (MOST_FUNCTIONS - 1));
        }
    }

    /** The functions, and the turns in which tasks, timers and jobs run them. */
    private static final class Loop {
        private final Things things;
        private final JobRow jobRow;
        private final PromiseRow promiseRow;
        private final TimerHeap timerHeap = new TimerHeap();
        private final Instruction[] program = new Instruction[MOST_FUNCTIONS * MOST_INSTRUCTIONS];
        private final int[] lengths = new int[MOST_FUNCTIONS];
        private int functionCount;
        private final int[] tasks = new int[MOST_TASKS];
        private int tasksAdded;
        private int tasksTaken;
        private int now;
        private int turnCount;
        private int jobsRun;
        private int spent;
        private long spentInAll;
        private final int[] traceRow = new int[MOST_TRACED];
        private long traceCount;
        // The run that is under way; those that have called it hang on it.
        private Run current;
        private Run freeRun;

        Loop(Things things, JobRow jobRow, PromiseRow promiseRow) {
            this.things = things;
            this.jobRow = jobRow;
            this.promiseRow = promiseRow;
        }

        boolean isFunction(int function) {
            return function >= 0 && function < functionCount && function < MOST_FUNCTIONS;
        }

        int lengthOf(int function) {
            return isFunction(function) ? lengths[function] : 0;
        }

        int newFunction() {
            functionCount++;
            return functionCount - 1;
        }

        int appendTo(int function, Instruction instruction) {
            int place = lengthOf(function);
            if (!isFunction(function) || place < 0 || place >= MOST_INSTRUCTIONS) {
                return NONE;
            }
            program[function * MOST_INSTRUCTIONS + place] = instruction;
            lengths[function] = place + 1;
            return place;
        }

        /** The instruction at a place, or null behind the last one. */
        private Instruction instructionAt(int function, int place) {
            return place < 0 || place >= lengthOf(function) || place >= MOST_INSTRUCTIONS || !isFunction(function)
                    ? null : program[function * MOST_INSTRUCTIONS + place];
        }

        int newTask(int function) {
            if (tasksAdded >= 0 && tasksAdded < MOST_TASKS) {
                tasks[tasksAdded] = function;
                tasksAdded++;
            }
            return tasksAdded - tasksTaken;
        }

        boolean hasWork() {
            return tasksTaken < tasksAdded || timerHeap.count > 0;
        }

        private void trace(int number) {
            if (traceCount >= 0 && traceCount < MOST_TRACED) {
                traceRow[(int) traceCount] = number;
            }
            traceCount++;
        }

        void oneTurn() {
            turnCount++;
            spent = 0;
            startTaskOrTimer();
            for (int i = 0; i < MANY && (current != null || jobRow.hasJob()); i++) {
                if (current == null) {
                    startJob();
                } else {
                    goOn(current);
                }
            }
            int which = promiseRow.nextUnhandled();
            for (int i = 0; i < MOST_PROMISES && which != NONE; i++) {
                trace(TRACED_REJECTION + which);
                which = promiseRow.nextUnhandled();
            }
        }

        private void startTaskOrTimer() {
            if (tasksTaken >= 0 && tasksTaken < tasksAdded && tasksTaken < MOST_TASKS) {
                current = newRun(tasks[tasksTaken], NONE);
                tasksTaken++;
            } else if (timerHeap.count > 0) {
                long timer = timerHeap.takeEarliest();
                now = Math.max(now, TimerHeap.dueOf(timer));
                current = newRun(TimerHeap.functionOf(timer), NONE);
            }
        }

        private Run newRun(int function, int promise) {
            Run run = freeRun;
            if (run == null) {
                run = new Run();
            } else {
                freeRun = run.caller;
            }
            run.begin(function, promise);
            return run;
        }

        private void giveBack(Run run) {
            run.caller = freeRun;
            freeRun = run;
        }

        private void startJob() {
            Job job = jobRow.takeFirst();
            if (job == null) {
                return;
            }
            jobsRun++;
            switch (job.kind) {
                case JOB_FUNCTION:
                    current = newRun(job.function, NONE);
                    break;
                case JOB_GO_ON:
                    current = job.run;
                    if (current != null && job.rejected) {
                        raise(current, job.number);
                    } else if (current != null) {
                        current.write(current.waitingRegister, job.number);
                    }
                    break;
                case JOB_REACTION:
                    react(job);
                    break;
                case JOB_ADOPT:
                    Job alike = jobRow.make(JOB_ALIKE);
                    alike.promise = job.promise;
                    promiseRow.putReaction(job.source, alike);
                    break;
                case JOB_ALIKE:
                    promiseRow.settle(job.promise, job.rejected, job.number);
                    break;
                default:
                    addPart(job);
                    break;
            }
            jobRow.giveBack(job);
        }

        private void react(Job job) {
            int function = job.rejected ? job.functionRejected : job.function;
            if (function != NONE) {
                current = newRun(function, job.promise);
                current.write(0, job.number);
            } else if (job.rejected) {
                promiseRow.reject(job.promise, job.number);
            } else {
                promiseRow.resolve(job.promise, job.number);
            }
        }

        private void addPart(Job job) {
            Promise all = promiseRow.find(job.promise);
            if (all == null) {
                return;
            }
            if (job.rejected) {
                promiseRow.reject(job.promise, job.number);
                return;
            }
            all.sum += job.number;
            all.missing--;
            if (all.missing == 0) {
                promiseRow.resolve(job.promise, all.sum);
            }
        }

        /** Carries out the next instruction of the run that is under way, or ends it behind the last one. */
        private void goOn(Run run) {
            Instruction next = instructionAt(run.function, run.place);
            if (next == null) {
                endWith(run, 0L);
                return;
            }
            if (spent >= MOST_SPENT) {
                stopTurn();
                return;
            }
            spent++;
            spentInAll++;
            run.place++;
            long thrown = FINE;
            switch (next.letter) {
                case 'x':
                    endWith(run, run.read(next.a));
                    break;
                case 'w':
                    waitFor(run, next.a);
                    break;
                case 'g': case 's':
                    thrown = useObject(run, next);
                    break;
                case 'p': case 'R': case 'X':
                    thrown = usePromise(run, next);
                    break;
                case 'h':
                    thrown = putReactions(run, next);
                    break;
                case 'A':
                    thrown = gatherAll(run, next);
                    break;
                case 'c':
                    thrown = callFunction(run, next);
                    break;
                case 'q': case 't':
                    thrown = runLater(run, next);
                    break;
                default:
                    thrown = useRegisters(run, next);
                    break;
            }
            if (thrown != FINE) {
                raise(run, (int) thrown);
            }
        }

        private void endWith(Run run, long value) {
            current = run.caller;
            if (run.promise != NONE) {
                promiseRow.resolve(run.promise, value);
            }
            giveBack(run);
        }

        private void raise(Run run, int number) {
            int handler = run.popHandler();
            if (handler != NONE) {
                run.place = handler;
                run.write(0, number);
                return;
            }
            current = run.caller;
            if (run.promise != NONE) {
                promiseRow.reject(run.promise, number);
            } else {
                trace(TRACED_END + number);
            }
            giveBack(run);
        }

        private void stopTurn() {
            while (current != null) {
                Run caller = current.caller;
                giveBack(current);
                current = caller;
            }
            for (int i = 0; i < MANY && jobRow.hasJob(); i++) {
                Job job = jobRow.takeFirst();
                if (job != null) {
                    if (job.run != null) {
                        giveBack(job.run);
                    }
                    jobRow.giveBack(job);
                }
            }
            trace(TRACED_STOP);
        }

        private void waitFor(Run run, int register) {
            long value = run.read(register);
            current = run.caller;
            run.caller = null;
            run.depth = 1;
            run.waitingRegister = register;
            Job job = jobRow.make(JOB_GO_ON);
            job.run = run;
            if (isPromise(value)) {
                promiseRow.putReaction(promiseIn(value), job);
            } else {
                job.number = (int) value;
                jobRow.append(job);
            }
        }

        private long useRegisters(Run run, Instruction next) {
            long value = run.read(next.a);
            switch (next.letter) {
                case 'v':
                    run.write(next.a, next.b);
                    return FINE;
                case '+':
                    long other = run.read(next.b);
                    if (isPromise(value) || isPromise(other)) {
                        return THROWN_KIND;
                    }
                    run.write(next.a, (int) value + (int) other);
                    return FINE;
                case 'm':
                    run.write(next.a, run.read(next.b));
                    return FINE;
                case 'l':
                    trace(isPromise(value) ? TRACED_PROMISE + promiseIn(value) : (int) value);
                    return FINE;
                case 'z':
                    run.place = value == 0L ? next.b : run.place;
                    return FINE;
                case 'j':
                    run.place = next.b;
                    return FINE;
                case 'T':
                    return isPromise(value) ? THROWN_KIND : value;
                case 'b':
                    run.pushHandler(next.b);
                    return FINE;
                default:
                    run.popHandler();
                    return FINE;
            }
        }

        private long useObject(Run run, Instruction next) {
            Thing thing = things.find(next.b);
            if (thing == null) {
                return THROWN_MISSING;
            }
            if (next.letter == 'g') {
                long got = things.getFrom(thing, next.c);
                if (got == FAULT) {
                    return THROWN_FAULT;
                }
                run.write(next.a, got);
                return FINE;
            }
            long value = run.read(next.a);
            if (isPromise(value)) {
                return THROWN_KIND;
            }
            char ended = things.setFrom(thing, next.c, (int) value);
            if (ended == 'T') {
                return THROWN_FAULT;
            }
            return ended == 'n' ? THROWN_NO : FINE;
        }

        private long usePromise(Run run, Instruction next) {
            if (next.letter == 'p') {
                if (!promiseRow.hasRoomFor(1)) {
                    return THROWN_FULL;
                }
                run.write(next.a, PROMISE + promiseRow.append(new Promise()));
                return FINE;
            }
            long promise = run.read(next.a);
            long with = run.read(next.b);
            if (!isPromise(promise) || (next.letter == 'X' && isPromise(with))) {
                return THROWN_KIND;
            }
            if (next.letter == 'R') {
                promiseRow.resolve(promiseIn(promise), with);
            } else {
                promiseRow.reject(promiseIn(promise), (int) with);
            }
            return FINE;
        }

        private long putReactions(Run run, Instruction next) {
            boolean missing = (next.b != NONE && !isFunction(next.b)) || (next.c != NONE && !isFunction(next.c));
            if (missing) {
                return THROWN_MISSING;
            }
            long value = run.read(next.a);
            if (!isPromise(value)) {
                return THROWN_KIND;
            }
            if (!promiseRow.hasRoomFor(1)) {
                return THROWN_FULL;
            }
            Job job = jobRow.make(JOB_REACTION);
            job.function = next.b;
            job.functionRejected = next.c;
            job.promise = promiseRow.append(new Promise());
            run.write(next.a, PROMISE + job.promise);
            promiseRow.putReaction(promiseIn(value), job);
            return FINE;
        }

        private long gatherAll(Run run, Instruction next) {
            int needed = 1;
            for (int i = next.b; i <= next.c && i < REGISTERS; i++) {
                needed += isPromise(run.read(i)) ? 0 : 1;
            }
            if (!promiseRow.hasRoomFor(needed)) {
                return THROWN_FULL;
            }
            Promise all = new Promise();
            all.missing = next.c - next.b + 1;
            int allNumber = promiseRow.append(all);
            for (int i = next.b; i <= next.c && i < REGISTERS; i++) {
                long value = run.read(i);
                int part = promiseIn(value);
                if (!isPromise(value)) {
                    part = promiseRow.append(new Promise());
                    promiseRow.resolve(part, value);
                }
                Job job = jobRow.make(JOB_PART);
                job.promise = allNumber;
                promiseRow.putReaction(part, job);
            }
            run.write(next.a, PROMISE + allNumber);
            return FINE;
        }

        private long callFunction(Run run, Instruction next) {
            if (!isFunction(next.b)) {
                return THROWN_MISSING;
            }
            if (run.depth >= MOST_RUNS) {
                return THROWN_DEEP;
            }
            if (!promiseRow.hasRoomFor(1)) {
                return THROWN_FULL;
            }
            int promise = promiseRow.append(new Promise());
            run.write(next.a, PROMISE + promise);
            Run called = newRun(next.b, promise);
            called.caller = run;
            called.depth = run.depth + 1;
            current = called;
            return FINE;
        }

        private long runLater(Run run, Instruction next) {
            if (!isFunction(next.b)) {
                return THROWN_MISSING;
            }
            if (next.letter == 'q') {
                Job job = jobRow.make(JOB_FUNCTION);
                job.function = next.b;
                jobRow.append(job);
                return FINE;
            }
            long delay = run.read(next.a);
            if (isPromise(delay)) {
                return THROWN_KIND;
            }
            timerHeap.plant(now + Math.max(0, Math.min(MOST_DELAY, (int) delay)), next.b);
            return FINE;
        }
    }
}
