import java.util.NoSuchElementException;

/** Each exception of promises 2 to 31: on both sides of its boundary, the one listed first, and nothing changed. */
public final class RefusedTest {
    private static final Class<IndexOutOfBoundsException> INDEX = IndexOutOfBoundsException.class;
    private static final Class<IllegalArgumentException> ARGUMENT = IllegalArgumentException.class;
    private static final Class<IllegalStateException> STATE = IllegalStateException.class;
    private static final Class<UnsupportedOperationException> FAULT = UnsupportedOperationException.class;
    private static final Class<NoSuchElementException> ELEMENT = NoSuchElementException.class;
    private static final Class<ArithmeticException> DIVIDED = ArithmeticException.class;
    private static final int LEAST = Integer.MIN_VALUE;
    private static final int MOST = Integer.MAX_VALUE;
    // Not among the objects 0 to 5 of the mixed language.
    private static final int[] NO_OBJECTS = {-1, 6, 12, LEAST, MOST};
    private static final int[] NO_KEYS = {-1, 20, LEAST, MOST};
    private static final int[] NO_VALUES = {-10000, 10000, LEAST, MOST};

    public static void main(String[] args) {
        addObject();
        addProxy();
        tell();
        revoke();
        define();
        set();
        getHasDelete();
        closeObject();
        setChain();
        keysAndKeyAt();
        rights();
        addFunction();
        add();
        addNumbers();
        post();
        turn();
        traceAt();
        stateOfAndNumberOf();
        figures();
        Check.end();
    }

    private static void addObject() {
        for (int chain : new int[] {-2, 6, 12, LEAST, MOST}) {
            Refused.call("2: chain " + chain, INDEX, Languages::mixed, row -> row.addObject(chain));
            Refused.call("2: full, chain " + chain, chain == 6 ? STATE : INDEX, Languages::full,
                    row -> row.addObject(chain));
        }
        Check.same("2: chain -1", Languages.mixed().addObject(-1), 6);
        Check.same("2: chain 0", Languages.mixed().addObject(0), 6);
        Check.same("2: the last one as chain", Languages.mixed().addObject(5), 6);
        Refused.call("2: full", STATE, Languages::full, row -> row.addObject(-1));
        Refused.call("2: full, chain 11", STATE, Languages::full, row -> row.addObject(11));
    }

    private static void addProxy() {
        for (int target : NO_OBJECTS) {
            Refused.call("3: target " + target, INDEX, Languages::mixed, row -> row.addProxy(target));
            Refused.call("3: full, target " + target, target == 6 ? STATE : INDEX, Languages::full,
                    row -> row.addProxy(target));
        }
        Check.same("3: target 0", Languages.mixed().addProxy(0), 6);
        Check.same("3: the last one as target", Languages.mixed().addProxy(5), 6);
        Refused.call("3: full, target 11", STATE, Languages::full, row -> row.addProxy(11));
        EventloopRow row = Languages.mixed();
        for (int object = 6; object < 11; object++) {
            row.addObject(-1);
        }
        Check.same("3: the 12th", row.addProxy(10), 11);
        Check.fails("3: the 13th", STATE, () -> row.addProxy(11));
    }

    private static void tell() {
        for (int proxy : NO_OBJECTS) {
            Refused.call("4: object " + proxy, INDEX, Languages::mixed, row -> row.tell(proxy, 'g', 1));
            Refused.call("4: object " + proxy + ", letter", INDEX, Languages::mixed, row -> row.tell(proxy, 'x', 1));
            Refused.call("4: object " + proxy + ", answer", INDEX, Languages::mixed, row -> row.tell(proxy, 'h', 2));
        }
        for (char what : "GHSDabcefirtx \u0000\u0167\u0168\uffff".toCharArray()) {
            Refused.call("4: letter " + (int) what, ARGUMENT, Languages::mixed, row -> row.tell(2, what, 1));
            Refused.call("4: plain, letter " + (int) what, ARGUMENT, Languages::mixed, row -> row.tell(0, what, 1));
        }
        for (char what : "ghsd".toCharArray()) {
            int[] none = what == 'g' ? NO_VALUES : new int[] {-1, 2, LEAST, MOST};
            for (int answer : none) {
                Refused.call("4: " + what + " " + answer, ARGUMENT, Languages::mixed, row -> row.tell(2, what, answer));
                Refused.call("4: plain, " + what + " " + answer, ARGUMENT, Languages::mixed,
                        row -> row.tell(1, what, answer));
            }
            for (int answer : what == 'g' ? new int[] {-9999, 0, 9999} : new int[] {0, 1}) {
                int before = what == 'g' || what == 'd' ? 1 : 0;
                Check.same("4: " + what + " " + answer, Languages.mixed().tell(2, what, answer) ? 1 : 0, before);
                Check.no("4: a first " + what + " " + answer, Languages.mixed().tell(3, what, answer));
                Check.no("4: of a revoked one, " + what + " " + answer, Languages.mixed().tell(4, what, answer));
            }
            Refused.call("4: plain, " + what, STATE, Languages::mixed, row -> row.tell(1, what, 1));
            Refused.call("4: the last one, " + what, STATE, Languages::mixed, row -> row.tell(5, what, 0));
        }
    }

    private static void revoke() {
        for (int proxy : NO_OBJECTS) {
            Refused.call("5: object " + proxy, INDEX, Languages::mixed, row -> row.revoke(proxy));
        }
        for (int plain : new int[] {0, 1, 5}) {
            Refused.call("5: plain " + plain, STATE, Languages::mixed, row -> row.revoke(plain));
        }
        EventloopRow row = Languages.mixed();
        Check.no("5: not revoked", row.revoke(2));
        Check.yes("5: revoked", row.revoke(2));
        Check.yes("5: revoked before", row.revoke(4));
        Check.no("5: its target is revoked", row.revoke(3));
    }

    private static void define() {
        for (int object : NO_OBJECTS) {
            Refused.call("6: object " + object, INDEX, Languages::mixed, row -> row.define(object, 5, 1, 7));
            Refused.call("6: object " + object + " and more", INDEX, Languages::mixed,
                    row -> row.define(object, 20, 10000, 8));
        }
        for (int key : NO_KEYS) {
            Refused.call("6: key " + key, INDEX, Languages::mixed, row -> row.define(0, key, 1, 7));
            Refused.call("6: key " + key + ", value", INDEX, Languages::mixed, row -> row.define(0, key, 10000, 7));
            Refused.call("6: key " + key + ", rights", INDEX, Languages::mixed, row -> row.define(0, key, 0, 8));
            Refused.call("6: revoked, key " + key, INDEX, Languages::mixed, row -> row.define(4, key, 1, 7));
        }
        for (int value : NO_VALUES) {
            Refused.call("6: value " + value, ARGUMENT, Languages::mixed, row -> row.define(0, 5, value, 7));
            Refused.call("6: closed, value " + value, ARGUMENT, Languages::mixed, row -> row.define(1, 5, value, 7));
            Refused.call("6: revoked, value " + value, ARGUMENT, Languages::mixed, row -> row.define(4, 5, value, 7));
        }
        for (int rights : new int[] {-1, 8, LEAST, MOST}) {
            Refused.call("6: rights " + rights, ARGUMENT, Languages::mixed, row -> row.define(0, 3, 33, rights));
            Refused.call("6: revoked, rights " + rights, ARGUMENT, Languages::mixed,
                    row -> row.define(4, 3, 33, rights));
        }
        for (int key : new int[] {0, 19}) {
            for (int value : new int[] {-9999, 9999}) {
                for (int rights : new int[] {0, 7}) {
                    EventloopRow row = Languages.mixed();
                    Check.sign("6: the edges", row.define(0, key, value, rights), 'y');
                    Check.same("6: the edges, value", row.get(0, key), value);
                    Check.same("6: the edges, rights", row.rights(0, key), rights);
                }
            }
        }
        Check.sign("6: the last object", Languages.mixed().define(5, 3, 0, 0), 'y');
    }

    private static void set() {
        for (int object : NO_OBJECTS) {
            Refused.call("7: object " + object, INDEX, Languages::mixed, row -> row.set(object, 5, 1));
            Refused.call("7: object " + object + " and more", INDEX, Languages::mixed,
                    row -> row.set(object, 20, 10000));
        }
        for (int key : NO_KEYS) {
            Refused.call("7: key " + key, INDEX, Languages::mixed, row -> row.set(0, key, 1));
            Refused.call("7: key " + key + ", value", INDEX, Languages::mixed, row -> row.set(0, key, -10000));
            Refused.call("7: revoked, key " + key, INDEX, Languages::mixed, row -> row.set(4, key, 1));
        }
        for (int value : NO_VALUES) {
            for (int object : new int[] {0, 1, 2, 4, 5}) {
                Refused.call("7: value " + value, ARGUMENT, Languages::mixed, row -> row.set(object, 3, value));
            }
        }
        for (int key : new int[] {0, 19}) {
            for (int value : new int[] {-9999, 9999}) {
                EventloopRow row = Languages.mixed();
                Check.sign("7: the edges", row.set(0, key, value), 'y');
                Check.same("7: the edges, value", row.get(0, key), value);
            }
        }
    }

    private static void getHasDelete() {
        for (int object : NO_OBJECTS) {
            Refused.call("8: object " + object, INDEX, Languages::mixed, row -> row.get(object, 3));
            Refused.call("8: object and key " + object, INDEX, Languages::mixed, row -> row.get(object, 20));
            Refused.call("9: object " + object, INDEX, Languages::mixed, row -> row.has(object, 3));
            Refused.call("9: object and key " + object, INDEX, Languages::mixed, row -> row.has(object, -1));
            Refused.call("10: object " + object, INDEX, Languages::mixed, row -> row.delete(object, 3));
            Refused.call("10: object and key " + object, INDEX, Languages::mixed, row -> row.delete(object, 20));
        }
        for (int key : NO_KEYS) {
            for (int object : new int[] {0, 2, 4, 5}) {
                Refused.call("8: key " + key + " of " + object, INDEX, Languages::mixed, row -> row.get(object, key));
                Refused.call("9: key " + key + " of " + object, INDEX, Languages::mixed, row -> row.has(object, key));
                Refused.call("10: key " + key + " of " + object, INDEX, Languages::mixed,
                        row -> row.delete(object, key));
            }
        }
        Refused.call("8: revoked", FAULT, Languages::mixed, row -> row.get(4, 3));
        Refused.call("8: an answer that its target denies", FAULT, Languages::mixed, row -> row.get(2, 0));
        Check.same("8: an answer that it allows", Languages.mixed().get(2, 3), 7);
        Check.same("8: the last object, the last key", Languages.mixed().get(5, 19), -9999);
        Check.same("8: the first key", Languages.mixed().get(1, 0), 9999);
        Check.sign("9: the first key", Languages.mixed().has(1, 0), 'y');
        Check.sign("9: the last object, the last key", Languages.mixed().has(5, 19), 'y');
        Check.sign("10: the first key", Languages.mixed().delete(1, 0), 'n');
        EventloopRow row = Languages.mixed();
        Check.sign("10: the last object, the last key", row.delete(5, 19), 'y');
        Check.sign("10: it is deleted", row.has(5, 19), 'n');
    }

    private static void closeObject() {
        for (int object : NO_OBJECTS) {
            Refused.call("11: object " + object, INDEX, Languages::mixed, row -> row.closeObject(object));
        }
        for (int object = 0; object < 6; object++) {
            Check.sign("11: object " + object, Languages.mixed().closeObject(object), object == 4 ? 'T' : 'y');
        }
    }

    private static void setChain() {
        for (int object : NO_OBJECTS) {
            Refused.call("12: object " + object, INDEX, Languages::mixed, row -> row.setChain(object, -1));
            Refused.call("12: object " + object + ", chain", INDEX, Languages::mixed, row -> row.setChain(object, 6));
        }
        for (int chain : new int[] {-2, 6, 12, LEAST, MOST}) {
            for (int object : new int[] {0, 1, 2, 4}) {
                Refused.call("12: chain " + chain + " of " + object, INDEX, Languages::mixed,
                        row -> row.setChain(object, chain));
            }
        }
        Check.sign("12: chain -1", Languages.mixed().setChain(5, -1), 'y');
        Check.sign("12: chain 0", Languages.mixed().setChain(5, 0), 'y');
        Check.sign("12: the last one as chain", Languages.mixed().setChain(0, 5), 'y');
        Check.sign("12: revoked", Languages.mixed().setChain(4, -1), 'T');
    }

    private static void keysAndKeyAt() {
        for (int object : NO_OBJECTS) {
            Refused.call("13: object " + object, INDEX, Languages::mixed, row -> row.keys(object));
            Refused.call("14: object " + object, INDEX, Languages::mixed, row -> row.keyAt(object, 0));
            Refused.call("14: object " + object + ", index", INDEX, Languages::mixed, row -> row.keyAt(object, -1));
        }
        Refused.call("13: revoked", FAULT, Languages::mixed, row -> row.keys(4));
        for (int index : new int[] {-1, 0, 3, LEAST, MOST}) {
            Refused.call("14: revoked, index " + index, FAULT, Languages::mixed, row -> row.keyAt(4, index));
        }
        for (int index : new int[] {-1, 3, 19, 20, LEAST, MOST}) {
            Refused.call("14: index " + index, ELEMENT, Languages::mixed, row -> row.keyAt(0, index));
        }
        Refused.call("14: index 0 of none", ELEMENT, Languages::full, row -> row.keyAt(6, 0));
        Check.same("13: keys", Languages.mixed().keys(0), 3);
        Check.same("13: none", Languages.full().keys(6), 0);
        Check.same("14: index 0", Languages.mixed().keyAt(0, 0), 3);
        Check.same("14: index 2", Languages.mixed().keyAt(0, 2), 10);
        Check.same("14: of a proxy", Languages.mixed().keyAt(3, 1), 3);
        Refused.call("14: of a proxy", ELEMENT, Languages::mixed, row -> row.keyAt(3, 2));
    }

    private static void rights() {
        for (int object : NO_OBJECTS) {
            Refused.call("15: object " + object, INDEX, Languages::mixed, row -> row.rights(object, 3));
            Refused.call("15: object " + object + ", key", INDEX, Languages::mixed, row -> row.rights(object, 20));
        }
        for (int key : NO_KEYS) {
            Refused.call("15: key " + key, INDEX, Languages::mixed, row -> row.rights(0, key));
            Refused.call("15: revoked, key " + key, INDEX, Languages::mixed, row -> row.rights(4, key));
        }
        Refused.call("15: revoked", FAULT, Languages::mixed, row -> row.rights(4, 3));
        Refused.call("15: revoked, none", FAULT, Languages::mixed, row -> row.rights(4, 4));
        Refused.call("15: none", ELEMENT, Languages::mixed, row -> row.rights(0, 4));
        Refused.call("15: the chain's", ELEMENT, Languages::mixed, row -> row.rights(1, 12));
        Refused.call("15: none of a proxy", ELEMENT, Languages::mixed, row -> row.rights(3, 12));
        Check.same("15: the first key", Languages.mixed().rights(1, 0), 0);
        Check.same("15: the last key", Languages.mixed().rights(5, 19), 7);
        Check.same("15: of a proxy", Languages.mixed().rights(3, 3), 4);
    }

    private static void addFunction() {
        Refused.call("16: a ninth", STATE, Languages::full, row -> row.addFunction());
        Refused.call("16: a turn was done", STATE, Languages::turned, row -> row.addFunction());
        Check.same("16: no turn was done", Languages.mixed().addFunction(), 3);
        EventloopRow row = Languages.mixed();
        for (int function = 3; function < 8; function++) {
            Check.same("16: function", row.addFunction(), function);
        }
        Check.fails("16: the ninth", STATE, row::addFunction);
        EventloopRow idle = new EventloopRow();
        Check.same("16: nothing to be done", idle.turn(10), 0);
        Check.same("16: so no turn was done", idle.addFunction(), 0);
        idle.post(0);
        idle.turn(1);
        Check.fails("16: a turn without an instruction", STATE, idle::addFunction);
    }

    private static void add() {
        for (int function : new int[] {-1, 3, 8, LEAST, MOST}) {
            Refused.call("17: function " + function, INDEX, Languages::mixed, row -> row.add(function, 'e', 0, 0, 0));
            Refused.call("17: function " + function + ", letter", INDEX, Languages::mixed,
                    row -> row.add(function, '?', 0, 0, 0));
            Refused.call("17: function " + function + ", behind a turn", INDEX, Languages::turned,
                    row -> row.add(function, 'v', 4, 0, 0));
        }
        for (char letter : "VaEGSP? \u0000\u0176\uffff".toCharArray()) {
            Refused.call("17: letter " + (int) letter, ARGUMENT, Languages::mixed, row -> row.add(0, letter, 0, 0, 0));
            Refused.call("17: 16, letter " + (int) letter, ARGUMENT, Languages::full,
                    row -> row.add(3, letter, 0, 0, 0));
            Refused.call("17: a turn, letter " + (int) letter, ARGUMENT, Languages::turned,
                    row -> row.add(0, letter, 0, 0, 0));
        }
        Refused.call("17: a 17th", STATE, Languages::full, row -> row.add(3, 'e', 0, 0, 0));
        Refused.call("17: a turn was done", STATE, Languages::turned, row -> row.add(0, 'e', 0, 0, 0));
        Check.same("17: the next one", Languages.full().add(0, 'e', 0, 0, 0), 10);
        Check.same("17: the first one", Languages.full().add(7, 'e', 0, 0, 0), 0);
        EventloopRow row = Languages.full();
        for (int place = 0; place < 16; place++) {
            Check.same("17: place", row.add(4, 'e', 0, 0, 0), place);
        }
        Check.fails("17: the 17th", STATE, () -> row.add(4, 'e', 0, 0, 0));
        EventloopRow idle = Languages.full();
        EventloopRow none = new EventloopRow();
        none.addFunction();
        none.turn(1);
        Check.same("17: nothing was to be done", none.add(0, 'e', 0, 0, 0), 0);
        Check.fails("17: no turns at all", ARGUMENT, () -> idle.turn(0));
        Check.same("17: so no turn was done", idle.add(0, 'e', 0, 0, 0), 10);
    }

    /** The letters whose number has a range, at both edges; FunctionsTest goes on with those that have none. */
    private static void addNumbers() {
        for (char letter : "v+mlzTgspRXhctwAx".toCharArray()) {
            numberRefused(letter, 0, 0, 3);
        }
        numberRefused('v', 1, -9999, 9999);
        for (char letter : "+mRX".toCharArray()) {
            numberRefused(letter, 1, 0, 3);
        }
        for (char letter : "zjb".toCharArray()) {
            numberRefused(letter, 1, 0, 16);
        }
        for (char letter : "cqt".toCharArray()) {
            numberRefused(letter, 1, 0, 7);
        }
        numberRefused('h', 1, -1, 7);
        numberRefused('h', 2, -1, 7);
        for (char letter : "gs".toCharArray()) {
            numberRefused(letter, 1, 0, 11);
            numberRefused(letter, 2, 0, 19);
        }
        numberRefused('A', 2, 0, 3);
        for (int first = 0; first < 4; first++) {
            for (int last = 0; last < 4; last++) {
                int from = first;
                int to = last;
                String what = "17: A from " + from + " to " + to;
                if (last < first) {
                    Refused.call(what, ARGUMENT, Languages::mixed, row -> row.add(0, 'A', 0, from, to));
                } else {
                    Check.same(what, Languages.mixed().add(0, 'A', 0, from, to), 10);
                }
            }
        }
        Refused.call("17: A from -1", ARGUMENT, Languages::mixed, row -> row.add(0, 'A', 0, -1, 0));
        Refused.call("17: A from 4", ARGUMENT, Languages::mixed, row -> row.add(0, 'A', 0, 4, 4));
        Refused.call("17: 16, a number", ARGUMENT, Languages::full, row -> row.add(3, 'v', 0, 10000, 0));
        Refused.call("17: a turn, a number", ARGUMENT, Languages::turned, row -> row.add(0, 'v', 0, 10000, 0));
    }

    private static void numberRefused(char letter, int which, int least, int most) {
        for (int number : new int[] {least - 1, most + 1, LEAST, MOST}) {
            Refused.call("17: " + letter + ", number " + which + " is " + number, ARGUMENT, Languages::mixed,
                    row -> addOne(row, letter, which, number));
        }
        for (int number : new int[] {least, most}) {
            Check.same("17: " + letter + ", number " + which + " is " + number,
                    addOne(Languages.mixed(), letter, which, number), 10);
        }
    }

    private static int addOne(EventloopRow row, char letter, int which, int number) {
        return row.add(0, letter, which == 0 ? number : 0, which == 1 ? number : 0, which == 2 ? number : 0);
    }

    private static void post() {
        for (int function : new int[] {-1, 3, 8, LEAST, MOST}) {
            Refused.call("18: function " + function, INDEX, Languages::mixed, row -> row.post(function));
            Refused.call("18: 30 tasks, function " + function, INDEX, Languages::posted, row -> row.post(function));
        }
        Refused.call("18: 30 tasks", STATE, Languages::posted, row -> row.post(0));
        Check.same("18: the first function", Languages.mixed().post(0), 3);
        Check.same("18: the last function", Languages.mixed().post(2), 3);
        EventloopRow row = Languages.mixed();
        for (int tasks = 3; tasks <= 30; tasks++) {
            Check.same("18: tasks", row.post(1), tasks);
        }
        Check.fails("18: a 31st", STATE, () -> row.post(1));
        Check.same("18: ten", row.turn(10), 10);
        Check.fails("18: 30 were added, though 20 wait", STATE, () -> row.post(1));
    }

    private static void turn() {
        for (int turns : new int[] {0, -1, 11, LEAST, MOST}) {
            Refused.call("19: " + turns, ARGUMENT, Languages::mixed, row -> row.turn(turns));
            Refused.call("19: with nothing to be done, " + turns, ARGUMENT, Languages::posted, row -> row.turn(turns));
        }
        // Two tasks, and the timer that the first one sets.
        Check.same("19: 1", Languages.mixed().turn(1), 1);
        Check.same("19: 10", Languages.mixed().turn(10), 3);
        Check.same("19: nothing to be done", new EventloopRow().turn(1), 0);
    }

    private static void traceAt() {
        for (int index : new int[] {-1, 0, LEAST, MOST}) {
            Refused.call("23: nothing was traced, " + index, INDEX, Languages::mixed, row -> row.traceAt(index));
        }
        // -3 of the one that is called, 10003 of its promise, 30000 of the one that was rejected.
        for (int index : new int[] {-1, 3, 399, 400, LEAST, MOST}) {
            Refused.call("23: " + index, INDEX, Languages::turned, row -> row.traceAt(index));
        }
        Check.same("23: traced", Languages.turned().traced(), 3);
        Check.same("23: 0", Languages.turned().traceAt(0), -3);
        Check.same("23: 1", Languages.turned().traceAt(1), 10003);
        Check.same("23: 2", Languages.turned().traceAt(2), 30000);
    }

    private static void stateOfAndNumberOf() {
        for (int promise : new int[] {-1, 0, LEAST, MOST}) {
            Refused.call("25: there is none, " + promise, INDEX, Languages::mixed, row -> row.stateOf(promise));
            Refused.call("26: there is none, " + promise, INDEX, Languages::mixed, row -> row.numberOf(promise));
        }
        for (int promise : new int[] {-1, 4, 60, LEAST, MOST}) {
            Refused.call("25: " + promise, INDEX, Languages::turned, row -> row.stateOf(promise));
            Refused.call("26: " + promise, INDEX, Languages::turned, row -> row.numberOf(promise));
        }
        Refused.call("26: it waits", ELEMENT, Languages::turned, row -> row.numberOf(2));
        EventloopRow row = Languages.turned();
        Check.same("24", row.promises(), 4);
        Check.sign("25: 0", row.stateOf(0), 'r');
        Check.sign("25: 1", row.stateOf(1), 'f');
        Check.sign("25: 2", row.stateOf(2), 'w');
        Check.sign("25: 3", row.stateOf(3), 'f');
        Check.same("26: rejected", row.numberOf(0), 5);
        Check.same("26: fulfilled", row.numberOf(1), 5);
        Check.same("26: the last one", row.numberOf(3), -3);
    }

    private static void figures() {
        Refused.call("30: no promises", DIVIDED, Languages::mixed, row -> row.waitingShare());
        Refused.call("31: no turn", DIVIDED, Languages::mixed, row -> row.meanInstructions());
        Check.number("30: one of four", Languages.turned().waitingShare(), 0.25f);
        // The ten of the task, and the four of what it calls.
        Check.number("31: one turn", Languages.turned().meanInstructions(), 14);
        EventloopRow row = new EventloopRow();
        row.turn(1);
        Check.fails("31: nothing was to be done", DIVIDED, row::meanInstructions);
        row.addFunction();
        row.post(0);
        row.turn(1);
        Check.number("31: a turn without an instruction", row.meanInstructions(), 0);
        Check.fails("30: and without a promise", DIVIDED, row::waitingShare);
    }
}
