import java.util.ArrayDeque;
import java.util.ArrayList;
import java.util.HashMap;
import java.util.List;
import java.util.Map;
import java.util.NoSuchElementException;
import java.util.TreeMap;
import java.util.function.IntConsumer;

/** The document once more, with other means: recursion, closures and the Java library. RandomTest compares. */
final class Model {
    private static final class Fault extends RuntimeException {
        private static final long serialVersionUID = 1L;
    }

    private static final class Thrown extends RuntimeException {
        private static final long serialVersionUID = 1L;
        final int number;

        Thrown(int number) {
            super(null, null, false, false);
            this.number = number;
        }
    }

    private static final class Stop extends RuntimeException {
        private static final long serialVersionUID = 1L;
    }

    private static final class Property {
        int value;
        int rights;
    }

    private final class Thing {
        int target = -1;
        boolean revoked;
        final Map<Character, Integer> answers = new HashMap<>();
        int chain = -1;
        boolean open = true;
        final TreeMap<Integer, Property> small = new TreeMap<>();
        final Map<Integer, Property> others = new java.util.LinkedHashMap<>();

        Map<Integer, Property> rowOf(int key) {
            return key < 10 ? small : others;
        }

        List<Integer> listed() {
            List<Integer> keys = new ArrayList<>(small.keySet());
            keys.addAll(others.keySet());
            return keys;
        }

        /** The plain object behind it. */
        Thing plain() {
            if (revoked) {
                throw new Fault();
            }
            return target < 0 ? this : things.get(target).plain();
        }

        boolean define(int key, int value, int rights) {
            Property own = rowOf(key).get(key);
            if (own == null) {
                if (!open) {
                    return false;
                }
                own = new Property();
                rowOf(key).put(key, own);
            } else if ((own.rights & 4) == 0) {
                boolean refused = (rights & 4) != 0 || (rights & 2) != (own.rights & 2)
                        || (rights & 1) != 0 && (own.rights & 1) == 0
                        || (own.rights & 1) == 0 && own.value != value;
                if (refused) {
                    return false;
                }
            }
            own.value = value;
            own.rights = rights;
            return true;
        }

        /** What is told, or null; the fault if it cannot be, by what the target keeps. */
        Integer answer(char what, int key, int value) {
            if (revoked) {
                throw new Fault();
            }
            Integer told = answers.get(what);
            if (told == null) {
                return null;
            }
            Thing behind = things.get(target).plain();
            Property own = behind.rowOf(key).get(key);
            boolean keeps = own != null && (own.rights & 4) == 0 || own != null && !behind.open;
            boolean fixed = own != null && (own.rights & 5) == 0;
            boolean wrong = what == 'g' && fixed && own.value != told || what == 'h' && told == 0 && keeps
                    || what == 's' && told == 1 && fixed && own.value != value || what == 'd' && told == 1 && keeps;
            if (wrong) {
                throw new Fault();
            }
            return told;
        }
    }

    private final List<Thing> things = new ArrayList<>();

    private Thing find(int object) {
        if (object < 0 || object >= things.size()) {
            throw new IndexOutOfBoundsException();
        }
        return things.get(object);
    }

    private Thing find(int object, int key) {
        Thing thing = find(object);
        if (key < 0 || key > 19) {
            throw new IndexOutOfBoundsException();
        }
        return thing;
    }

    private static void range(long number, long least, long most) {
        if (number < least || number > most) {
            throw new IllegalArgumentException();
        }
    }

    private interface Deed {
        boolean done();
    }

    private static char yes(Deed deed) {
        try {
            return deed.done() ? 'y' : 'n';
        } catch (Fault fault) {
            return 'T';
        }
    }

    private int getOf(int object, int key, int passed) {
        if (object < 0) {
            return 0;
        }
        if (passed == 30) {
            throw new Fault();
        }
        Thing thing = things.get(object);
        Integer told = thing.answer('g', key, 0);
        if (told != null) {
            return told;
        }
        Property own = thing.rowOf(key).get(key);
        return own != null ? own.value : getOf(thing.target >= 0 ? thing.target : thing.chain, key, passed + 1);
    }

    private boolean hasOf(int object, int key, int passed) {
        if (object < 0) {
            return false;
        }
        if (passed == 30) {
            throw new Fault();
        }
        Thing thing = things.get(object);
        Integer told = thing.answer('h', key, 0);
        if (told != null) {
            return told == 1;
        }
        return thing.rowOf(key).get(key) != null
                || hasOf(thing.target >= 0 ? thing.target : thing.chain, key, passed + 1);
    }

    private boolean setOf(int object, int key, int value, Thing receiver, int passed) {
        boolean writable = true;
        if (object >= 0) {
            if (passed == 30) {
                throw new Fault();
            }
            Thing thing = things.get(object);
            Integer told = thing.answer('s', key, value);
            if (told != null) {
                return told == 1;
            }
            Property here = thing.rowOf(key).get(key);
            if (here == null) {
                return setOf(thing.target >= 0 ? thing.target : thing.chain, key, value, receiver, passed + 1);
            }
            writable = (here.rights & 1) != 0;
        }
        if (!writable) {
            return false;
        }
        Thing plain = receiver.plain();
        Property own = plain.rowOf(key).get(key);
        if (own == null) {
            return plain.define(key, value, 7);
        }
        return (own.rights & 1) != 0 && plain.define(key, value, own.rights);
    }

    private boolean deleteOf(Thing thing, int key) {
        Integer told = thing.answer('d', key, 0);
        if (told != null) {
            return told == 1;
        }
        if (thing.target >= 0) {
            return deleteOf(things.get(thing.target), key);
        }
        Property own = thing.rowOf(key).get(key);
        if (own != null && (own.rights & 4) == 0) {
            return false;
        }
        thing.rowOf(key).remove(key);
        return true;
    }

    private boolean chainOf(Thing thing, int chain) {
        if (thing.chain == chain) {
            return true;
        }
        if (!thing.open) {
            return false;
        }
        for (int at = chain; at >= 0 && things.get(at).target < 0; at = things.get(at).chain) {
            if (things.get(at) == thing) {
                return false;
            }
        }
        thing.chain = chain;
        return true;
    }

    public int addObject(int chain) {
        if (chain != -1) {
            find(chain);
        }
        return addThing(-1, chain);
    }

    public int addProxy(int target) {
        find(target);
        return addThing(target, -1);
    }

    private int addThing(int target, int chain) {
        if (things.size() == 12) {
            throw new IllegalStateException();
        }
        Thing thing = new Thing();
        thing.target = target;
        thing.chain = chain;
        things.add(thing);
        return things.size() - 1;
    }

    private Thing proxy(Thing thing) {
        if (thing.target < 0) {
            throw new IllegalStateException();
        }
        return thing;
    }

    public boolean tell(int proxy, char what, int answer) {
        Thing thing = find(proxy);
        range("ghsd".indexOf(what), 0, 3);
        range(answer, what == 'g' ? -9999 : 0, what == 'g' ? 9999 : 1);
        return proxy(thing).answers.put(what, answer) != null;
    }

    public boolean revoke(int proxy) {
        Thing thing = proxy(find(proxy));
        boolean before = thing.revoked;
        thing.revoked = true;
        return before;
    }

    public char define(int object, int key, int value, int rights) {
        Thing thing = find(object, key);
        range(value, -9999, 9999);
        range(rights, 0, 7);
        return yes(() -> thing.plain().define(key, value, rights));
    }

    public char set(int object, int key, int value) {
        Thing thing = find(object, key);
        range(value, -9999, 9999);
        return yes(() -> setOf(object, key, value, thing, 0));
    }

    public int get(int object, int key) {
        find(object, key);
        try {
            return getOf(object, key, 0);
        } catch (Fault fault) {
            throw new UnsupportedOperationException();
        }
    }

    public char has(int object, int key) {
        find(object, key);
        return yes(() -> hasOf(object, key, 0));
    }

    public char delete(int object, int key) {
        Thing thing = find(object, key);
        return yes(() -> deleteOf(thing, key));
    }

    public char closeObject(int object) {
        Thing thing = find(object);
        return yes(() -> {
            thing.plain().open = false;
            return true;
        });
    }

    public char setChain(int object, int chain) {
        Thing thing = find(object);
        if (chain != -1) {
            find(chain);
        }
        return yes(() -> chainOf(thing.plain(), chain));
    }

    private Thing plainOf(Thing thing) {
        try {
            return thing.plain();
        } catch (Fault fault) {
            throw new UnsupportedOperationException();
        }
    }

    public int keys(int object) {
        return plainOf(find(object)).listed().size();
    }

    public int keyAt(int object, int index) {
        List<Integer> listed = plainOf(find(object)).listed();
        if (index < 0 || index >= listed.size()) {
            throw new NoSuchElementException();
        }
        return listed.get(index);
    }

    public int rights(int object, int key) {
        Property own = plainOf(find(object, key)).rowOf(key).get(key);
        if (own == null) {
            throw new NoSuchElementException();
        }
        return own.rights;
    }

    // ---- functions

    private record Instruction(char letter, int a, int b, int c) {
    }

    private final List<List<Instruction>> functions = new ArrayList<>();
    private int turns;

    private List<Instruction> function(int number) {
        if (number < 0 || number >= functions.size()) {
            throw new IndexOutOfBoundsException();
        }
        return functions.get(number);
    }

    public int addFunction() {
        if (functions.size() == 8 || turns > 0) {
            throw new IllegalStateException();
        }
        functions.add(new ArrayList<>());
        return functions.size() - 1;
    }

    public int add(int function, char letter, int a, int b, int c) {
        List<Instruction> own = function(function);
        range("v+mlzjTbegspRXhcqtwAx".indexOf(letter), 0, 20);
        if ("jbeq".indexOf(letter) < 0) {
            range(a, 0, 3);
        }
        if ("+mRXA".indexOf(letter) >= 0) {
            range(b, 0, 3);
        } else if ("zjb".indexOf(letter) >= 0) {
            range(b, 0, 16);
        } else if ("hcqt".indexOf(letter) >= 0) {
            range(b, letter == 'h' ? -1 : 0, 7);
        } else if ("gs".indexOf(letter) >= 0) {
            range(b, 0, 11);
        } else if (letter == 'v') {
            range(b, -9999, 9999);
        }
        if ("gs".indexOf(letter) >= 0) {
            range(c, 0, 19);
        } else if (letter == 'h') {
            range(c, -1, 7);
        } else if (letter == 'A') {
            range(c, b, 3);
        }
        if (own.size() == 16 || turns > 0) {
            throw new IllegalStateException();
        }
        own.add(new Instruction(letter, a, b, c));
        return own.size() - 1;
    }

    // ---- promises

    private final class Promise {
        final int index = promises.size();
        char state = 'w';
        boolean resolved;
        int number;
        boolean reacted;
        boolean told;
        boolean late;
        List<Reaction> reactions = new ArrayList<>();

        Promise() {
            promises.add(this);
        }

        void settle(char to, int with) {
            state = to;
            number = with;
            resolved = true;
            if (to == 'r') {
                rejected.add(this);
            }
            for (Reaction reaction : reactions) {
                queue(reaction);
            }
            reactions = new ArrayList<>();
        }

        void queue(Reaction reaction) {
            char as = state;
            int with = number;
            waiting.add(() -> (as == 'f' ? reaction.fulfilled : reaction.rejected).accept(with));
        }

        void react(IntConsumer fulfilled, IntConsumer thrown) {
            reacted = true;
            late |= told;
            Reaction reaction = new Reaction(fulfilled, thrown);
            if (state == 'w') {
                reactions.add(reaction);
            } else {
                queue(reaction);
            }
        }

        void resolve(Object with) {
            if (resolved) {
                return;
            }
            if (with instanceof Integer number) {
                settle('f', number);
            } else if (with == this) {
                settle('r', 94);
            } else {
                resolved = true;
                Promise other = (Promise) with;
                waiting.add(() -> other.react(n -> settle('f', n), n -> settle('r', n)));
            }
        }

        void reject(int with) {
            if (!resolved) {
                settle('r', with);
            }
        }
    }

    private record Reaction(IntConsumer fulfilled, IntConsumer rejected) {
    }

    private record Timer(int due, int function) {
    }

    private final List<Promise> promises = new ArrayList<>();
    private final List<Promise> rejected = new ArrayList<>();
    private final ArrayDeque<Runnable> waiting = new ArrayDeque<>();
    private final ArrayDeque<Integer> tasks = new ArrayDeque<>();
    private final List<Timer> timers = new ArrayList<>();
    private final List<Integer> trace = new ArrayList<>();
    private int posted;
    private int time;
    private int jobsRun;
    private int within;
    private int spent;
    private long spentInAll;

    // ---- runs

    private final class Run {
        final int function;
        final Promise promise;
        final Object[] registers = {0, 0, 0, 0};
        final ArrayDeque<Integer> handlers = new ArrayDeque<>();
        int place;

        Run(int function, Promise promise) {
            this.function = function;
            this.promise = promise;
        }

        void end(Object with) {
            if (promise != null) {
                promise.resolve(with);
            }
        }

        void endBy(int number) {
            if (promise != null) {
                promise.reject(number);
            } else {
                trace.add(20000 + number);
            }
        }

        /** Throws a number, or none, and goes on to the end or until it waits. */
        void go(Integer thrown) {
            within++;
            try {
                Integer next = thrown;
                while (true) {
                    if (next != null) {
                        if (handlers.isEmpty()) {
                            endBy(next);
                            return;
                        }
                        place = handlers.pop();
                        registers[0] = next;
                    }
                    next = null;
                    List<Instruction> own = functions.get(function);
                    if (place >= own.size()) {
                        end(0);
                        return;
                    }
                    if (spent == 300) {
                        throw new Stop();
                    }
                    spent++;
                    spentInAll++;
                    Instruction i = own.get(place++);
                    try {
                        if (i.letter == 'x') {
                            end(registers[i.a]);
                            return;
                        }
                        if (i.letter == 'w') {
                            waitAt(i.a);
                            return;
                        }
                        carryOut(i);
                    } catch (Thrown now) {
                        next = now.number;
                    }
                }
            } finally {
                within--;
            }
        }

        void waitAt(int a) {
            if (registers[a] instanceof Promise other) {
                other.react(n -> {
                    registers[a] = n;
                    go(null);
                }, this::go);
            } else {
                waiting.add(() -> go(null));
            }
        }

        int number(int register) {
            if (registers[register] instanceof Integer number) {
                return number;
            }
            throw new Thrown(92);
        }

        Promise promise(int register) {
            if (registers[register] instanceof Promise promise) {
                return promise;
            }
            throw new Thrown(92);
        }

        void needs(boolean there) {
            if (!there) {
                throw new Thrown(95);
            }
        }

        void needsRoom(int more) {
            if (promises.size() + more > 60) {
                throw new Thrown(93);
            }
        }

        void carryOut(Instruction i) {
            switch (i.letter) {
                case 'v' -> registers[i.a] = i.b;
                case '+' -> registers[i.a] = number(i.a) + number(i.b);
                case 'm' -> registers[i.a] = registers[i.b];
                case 'l' -> trace.add(registers[i.a] instanceof Promise p ? 10000 + p.index : (Integer) registers[i.a]);
                case 'z' -> place = registers[i.a].equals(0) ? i.b : place;
                case 'j' -> place = i.b;
                case 'T' -> throw new Thrown(number(i.a));
                case 'b' -> handlers.push(i.b);
                case 'e' -> handlers.poll();
                case 'g' -> {
                    needs(i.b < things.size());
                    try {
                        registers[i.a] = getOf(i.b, i.c, 0);
                    } catch (Fault fault) {
                        throw new Thrown(90);
                    }
                }
                case 's' -> {
                    needs(i.b < things.size());
                    int value = number(i.a);
                    char done = yes(() -> setOf(i.b, i.c, value, things.get(i.b), 0));
                    if (done != 'y') {
                        throw new Thrown(done == 'T' ? 90 : 91);
                    }
                }
                case 'p' -> {
                    needsRoom(1);
                    registers[i.a] = new Promise();
                }
                case 'R' -> promise(i.a).resolve(registers[i.b]);
                case 'X' -> promise(i.a).reject(number(i.b));
                case 'h' -> {
                    needs(i.b < functions.size() && i.c < functions.size());
                    Promise on = promise(i.a);
                    needsRoom(1);
                    Promise result = new Promise();
                    registers[i.a] = result;
                    on.react(n -> react(i.b, n, result, () -> result.resolve(n)),
                            n -> react(i.c, n, result, () -> result.reject(n)));
                }
                case 'c' -> {
                    needs(i.b < functions.size());
                    if (within == 30) {
                        throw new Thrown(96);
                    }
                    needsRoom(1);
                    Promise result = new Promise();
                    new Run(i.b, result).go(null);
                    registers[i.a] = result;
                }
                case 'q' -> {
                    needs(i.b < functions.size());
                    waiting.add(() -> new Run(i.b, null).go(null));
                }
                case 't' -> {
                    needs(i.b < functions.size());
                    timers.add(new Timer(time + Math.min(9999, Math.max(0, number(i.a))), i.b));
                }
                case 'A' -> all(i);
                default -> throw new AssertionError();
            }
        }

        private void react(int with, int n, Promise result, Runnable alike) {
            if (with < 0) {
                alike.run();
                return;
            }
            Run run = new Run(with, result);
            run.registers[0] = n;
            run.go(null);
        }

        private void all(Instruction i) {
            Object[] before = registers.clone();
            int more = 1;
            for (int r = i.b; r <= i.c; r++) {
                more += before[r] instanceof Integer ? 1 : 0;
            }
            needsRoom(more);
            Promise all = new Promise();
            int[] left = {i.c - i.b + 1, 0};
            for (int r = i.b; r <= i.c; r++) {
                Promise part;
                if (before[r] instanceof Promise p) {
                    part = p;
                } else {
                    part = new Promise();
                    part.resolve(before[r]);
                }
                part.react(n -> {
                    left[1] += n;
                    if (--left[0] == 0) {
                        all.resolve(left[1]);
                    }
                }, all::reject);
            }
            registers[i.a] = all;
        }
    }

    // ---- turns

    public int post(int function) {
        function(function);
        if (posted == 30) {
            throw new IllegalStateException();
        }
        posted++;
        tasks.add(function);
        return tasks.size();
    }

    public int turn(int most) {
        range(most, 1, 10);
        int done = 0;
        while (done < most && !(tasks.isEmpty() && timers.isEmpty())) {
            done++;
            turns++;
            spent = 0;
            try {
                oneTurn();
            } catch (Stop stop) {
                waiting.clear();
                trace.add(99999);
            }
            for (Promise promise : rejected) {
                if (!promise.reacted) {
                    trace.add(30000 + promise.index);
                    promise.told = true;
                }
            }
            rejected.clear();
        }
        return done;
    }

    private void oneTurn() {
        int function;
        if (tasks.isEmpty()) {
            Timer first = timers.get(0);
            for (Timer timer : timers) {
                first = timer.due < first.due ? timer : first;
            }
            for (int i = 0; i < timers.size(); i++) {
                if (timers.get(i) == first) {
                    timers.remove(i);
                    break;
                }
            }
            time = Math.max(time, first.due);
            function = first.function;
        } else {
            function = tasks.remove();
        }
        new Run(function, null).go(null);
        while (!waiting.isEmpty()) {
            jobsRun++;
            waiting.remove().run();
        }
    }

    public int time() {
        return time;
    }

    public int timers() {
        return timers.size();
    }

    public long traced() {
        return trace.size();
    }

    public int traceAt(int index) {
        if (index < 0 || index >= trace.size() || index >= 400) {
            throw new IndexOutOfBoundsException();
        }
        return trace.get(index);
    }

    public int promises() {
        return promises.size();
    }

    private Promise promise(int number) {
        if (number < 0 || number >= promises.size()) {
            throw new IndexOutOfBoundsException();
        }
        return promises.get(number);
    }

    public char stateOf(int promise) {
        return promise(promise).state;
    }

    public int numberOf(int promise) {
        if (promise(promise).state == 'w') {
            throw new NoSuchElementException();
        }
        return promise(promise).number;
    }

    public int unhandled() {
        return (int) promises.stream().filter(p -> p.told && !p.late).count();
    }

    public int late() {
        return (int) promises.stream().filter(p -> p.late).count();
    }

    public int jobs() {
        return jobsRun;
    }

    public float waitingShare() {
        if (promises.isEmpty()) {
            throw new ArithmeticException();
        }
        return (float) promises.stream().filter(p -> p.state == 'w').count() / (float) promises.size();
    }

    public double meanInstructions() {
        if (turns == 0) {
            throw new ArithmeticException();
        }
        return (double) spentInAll / (double) turns;
    }

    public boolean isSound() {
        return true;
    }
}
