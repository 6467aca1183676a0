/** Promises 16 to 19: functions, their instructions, tasks and turns. */
public final class FunctionsTest {
    private static final Class<IndexOutOfBoundsException> INDEX = IndexOutOfBoundsException.class;
    private static final Class<IllegalArgumentException> ARGUMENT = IllegalArgumentException.class;
    private static final Class<IllegalStateException> STATE = IllegalStateException.class;

    public static void main(String[] args) {
        addFunction();
        add();
        addNumbers();
        post();
        turn();
        registers();
        jumps();
        handlers();
        objects();
        kinds();
        missing();
        calls();
        deepCalls();
        manyPromises();
        waits();
        reactions();
        adoption();
        all();
        ends();
        stop();
        stopInCalls();
        Check.end();
    }

    private static void addFunction() {
        EventloopRow row = new EventloopRow();
        for (int i = 0; i < 8; i++) {
            Check.same("16: function", row.addFunction(), i);
        }
        Check.fails("16: a ninth", STATE, row::addFunction);
        EventloopRow turned = new EventloopRow();
        turned.addFunction();
        turned.turn(1);
        Check.same("16: no turn was done", turned.addFunction(), 1);
        turned.post(0);
        Check.same("16: a task is no turn", turned.addFunction(), 2);
        turned.turn(1);
        Check.fails("16: a turn was done", STATE, turned::addFunction);
    }

    private static void add() {
        EventloopRow row = new EventloopRow();
        Check.fails("17: function", INDEX, () -> row.add(0, '?', 0, 0, 0));
        row.addFunction();
        Check.fails("17: function", INDEX, () -> row.add(-1, 'e', 0, 0, 0));
        Check.fails("17: letter", ARGUMENT, () -> row.add(0, 'V', 0, 0, 0));
        for (int i = 0; i < 16; i++) {
            Check.same("17: instruction", row.add(0, 'e', -5, 99, 99), i);
        }
        Check.fails("17: a letter behind 16", ARGUMENT, () -> row.add(0, 'a', 0, 0, 0));
        Check.fails("17: a 17th", STATE, () -> row.add(0, 'e', 0, 0, 0));
        row.addFunction();
        row.post(1);
        row.turn(1);
        Check.fails("17: function behind a turn", INDEX, () -> row.add(2, 'e', 0, 0, 0));
        Check.fails("17: number behind a turn", ARGUMENT, () -> row.add(1, 'l', 4, 0, 0));
        Check.fails("17: behind a turn", STATE, () -> row.add(1, 'l', 0, 0, 0));
    }

    private static boolean fits(char letter, int a, int b, int c) {
        EventloopRow row = new EventloopRow();
        row.addFunction();
        try {
            return row.add(0, letter, a, b, c) == 0;
        } catch (IllegalArgumentException refused) {
            return false;
        }
    }

    /** Each number of each letter at the edges of its range; the text tells which are looked at. */
    private static void addNumbers() {
        String known = "v+mlzjTbegspRXhcqtwAx";
        for (char letter = 0; letter < 200; letter++) {
            Check.same("17: letter " + (int) letter, fits(letter, 0, 0, 0) ? 1 : 0, known.indexOf(letter) >= 0 ? 1 : 0);
        }
        for (char letter : known.toCharArray()) {
            boolean free = "jbeq".indexOf(letter) >= 0;
            edge(letter, 0, free, 0, 3);
            boolean freeB = "lTepwx".indexOf(letter) >= 0;
            int most = "+mRX".indexOf(letter) >= 0 ? 3 : "zjb".indexOf(letter) >= 0 ? 16
                    : "hcqt".indexOf(letter) >= 0 ? 7 : "gs".indexOf(letter) >= 0 ? 11 : 9999;
            int least = letter == 'v' ? -9999 : letter == 'h' ? -1 : 0;
            if (letter == 'A') {
                continue;
            }
            edge(letter, 1, freeB, least, most);
            boolean freeC = "gsh".indexOf(letter) < 0;
            edge(letter, 2, freeC, letter == 'h' ? -1 : 0, letter == 'h' ? 7 : 19);
        }
        Check.yes("17: A 0 3", fits('A', 0, 0, 3));
        Check.yes("17: A 3 3", fits('A', 0, 3, 3));
        Check.no("17: A 2 1", fits('A', 0, 2, 1));
        Check.no("17: A 0 4", fits('A', 0, 0, 4));
        Check.no("17: A -1 0", fits('A', 0, -1, 0));
        Check.no("17: A 4 4", fits('A', 0, 4, 4));
    }

    private static void edge(char letter, int which, boolean free, int least, int most) {
        for (int number : new int[] {least - 1, least, most, most + 1, Integer.MIN_VALUE, Integer.MAX_VALUE}) {
            boolean due = free || number >= least && number <= most;
            boolean got = fits(letter, which == 0 ? number : 0, which == 1 ? number : 0, which == 2 ? number : 0);
            Check.same("17: " + letter + " number " + which + " " + number, got ? 1 : 0, due ? 1 : 0);
        }
    }

    private static void post() {
        EventloopRow row = new EventloopRow();
        Check.fails("18: function", INDEX, () -> row.post(0));
        Code.function(row, "v 0 1; l 0");
        Code.function(row, "v 0 2; l 0");
        Check.fails("18: function", INDEX, () -> row.post(-1));
        Check.fails("18: function", INDEX, () -> row.post(2));
        Check.same("18: one", row.post(1), 1);
        Check.same("18: two", row.post(0), 2);
        row.turn(1);
        Check.same("18: after a turn", row.post(0), 2);
        row.turn(10);
        Code.traces("18", row, 2, 1, 1);
        for (int i = 3; i < 30; i++) {
            Check.same("18: more", row.post(0), i - 2);
        }
        row.turn(5);
        Check.fails("18: a 31st", STATE, () -> row.post(0));
        Check.fails("18: a 31st of none", INDEX, () -> row.post(2));
    }

    private static void turn() {
        EventloopRow row = new EventloopRow();
        Code.function(row, "l 0");
        Check.fails("19: 0", ARGUMENT, () -> row.turn(0));
        Check.fails("19: 11", ARGUMENT, () -> row.turn(11));
        Check.same("19: none", row.turn(10), 0);
        for (int i = 0; i < 12; i++) {
            row.post(0);
        }
        Check.same("19: ten", row.turn(10), 10);
        Check.same("19: one", row.turn(1), 1);
        Check.same("19: the rest", row.turn(10), 1);
        Check.same("19: no more", row.turn(10), 0);
        Check.same("19: traced", row.traced(), 12);
        EventloopRow order = new EventloopRow();
        Code.function(order, "v 0 1; l 0; q 0 1; t 0 1; v 0 3; l 0");
        Code.function(order, "v 0 2; l 0");
        Code.function(order, "v 0 9; l 0");
        order.post(0);
        order.post(2);
        order.turn(10);
        Code.traces("19: tasks ahead of timers, jobs within the turn", order, 1, 3, 2, 9, 2);
    }

    private static void registers() {
        Code.traces("v + m", Code.turned("v 0 7; v 1 -9; + 0 1; l 0; m 2 0; l 2; l 3; + 2 2; l 2"), -2, -2, 0, -4);
        Code.traces("own registers", Code.turned("v 0 5; c 1 1; l 0", "l 0; v 0 6"), 0, 5);
        // 9999 doubled 18 times is beyond the ints.
        StringBuilder twice = new StringBuilder("v 0 9999;");
        for (int i = 0; i < 14; i++) {
            twice.append("+ 0 0;");
        }
        EventloopRow row = new EventloopRow();
        row.addObject(-1);
        row.addFunction();
        row.addFunction();
        Code.fill(row, 0, twice + "s 0 0 1");
        Code.fill(row, 1, "g 0 0 1; + 0 0; + 0 0; + 0 0; + 0 0; + 0 0; l 0");
        row.post(0);
        row.post(1);
        row.turn(2);
        Code.traces("as ints", row, (int) (9999L << 19));
        Check.same("s: whatever it is", row.get(0, 1), 9999 << 14);
    }

    private static void jumps() {
        Code.traces("z", Code.turned("z 0 2; T 0; v 1 4; z 1 5; l 1; v 2 0; z 2 8; l 2"), 4);
        Code.traces("z of a promise", Code.turned("p 0; z 0 3; l 0"), 10000);
        Code.traces("j", Code.turned("j 0 2; l 0; v 0 3; l 0; j 0 16; l 0"), 3);
        EventloopRow row = Code.turned("c 0 1; w 0; l 0; x 0", "v 0 8; j 0 3");
        Code.traces("j behind the last one ends with 0", row, 0);
    }

    private static void handlers() {
        Code.traces("T", Code.turned("v 1 5; T 1; l 1"), 20005);
        Code.traces("b", Code.turned("b 0 4; v 1 5; T 1; l 1; l 0; T 0"), 5, 20005);
        Code.traces("b twice", Code.turned("b 0 5; b 0 4; v 0 1; T 0; + 0 0; l 0; + 0 0; T 0"), 2, 4, 20008);
        Code.traces("e", Code.turned("b 0 6; b 0 5; e; v 0 1; T 0; l 3; l 0"), 1);
        manyHandlers();
        Code.traces("e without one", Code.turned("e; v 0 1; e; T 0"), 20001);
        Code.traces("a handler behind the last one", Code.turned("b 0 16; v 0 1; T 0"));
        Code.traces("a handler in the one that calls", Code.turned("b 0 4; c 1 1; w 1; l 3; l 0", "v 0 6; T 0"), 6);
    }

    /** As many handlers as told are put on the row, and each is taken off once, the latest one first. */
    private static void manyHandlers() {
        for (int many = 0; many <= 40; many++) {
            EventloopRow counted = Code.turned("v 0 " + (1 - many) + "; v 1 1; " + (many == 0 ? "j 0 7" : "e")
                    + "; b 0 8; z 0 7; + 0 1; j 0 3; T 2; l 3; j 0 7");
            Check.same("handlers " + many, counted.traced(), many + 1);
            Check.same("handlers " + many, counted.traceAt(many), 20000);
        }
        EventloopRow row = new EventloopRow();
        Code.function(row, "b 0 2; b 0 2; l 0");
        Code.function(row, "v 0 6; T 0");
        Code.function(row, "b 0 5; b 0 4; v 0 1; T 0; l 0; + 0 0; l 0; T 0");
        for (int function : new int[] {0, 1, 2}) {
            row.post(function);
        }
        row.turn(3);
        Code.traces("handlers of an earlier run are gone", row, 0, 20006, 1, 2, 4, 20004);
    }

    private static void objects() {
        EventloopRow row = new EventloopRow();
        row.addObject(-1);
        row.addProxy(0);
        row.define(0, 2, 12, 6);
        Code.function(row, "b 0 3; g 0 1 2; s 0 0 2; l 0; b 0 7; v 0 3; s 0 1 11; l 0; T 0");
        Code.function(row, "b 0 2; s 0 1 2; l 0; b 0 5; g 1 1 2; l 0");
        row.post(0);
        row.turn(1);
        Code.traces("91", row, 91, 3, 3, 20003);
        Check.same("s", row.get(0, 11), 3);
        row.revoke(1);
        row.post(1);
        row.turn(1);
        Code.traces("90", row, 91, 3, 3, 20003, 90, 90);
    }

    /** What an instruction that is behind a handler throws: 92 where a kind is wrong. */
    private static void kinds() {
        for (String wrong : new String[] {"+ 0 1", "+ 1 0", "T 0", "s 0 0 0", "R 1 0", "X 1 1", "X 0 0", "h 1 -1 -1",
            "t 0 1"}) {
            EventloopRow row = new EventloopRow();
            row.addObject(-1);
            row.addFunction();
            row.addFunction();
            Code.fill(row, 0, "p 0; v 1 1; " + wrong);
            row.post(0);
            row.turn(1);
            Code.traces("92 of " + wrong, row, 20092);
            Check.same("92 changes nothing", row.promises() + row.timers() + row.keys(0), 1);
            Check.sign("92 changes nothing", row.stateOf(0), 'w');
        }
    }

    private static void missing() {
        for (String wrong : new String[] {"h 0 1 -1", "h 0 -1 1", "h 1 7 7", "c 0 7", "q 0 1", "t 0 1", "g 0 0 0",
            "s 0 0 0"}) {
            EventloopRow row = Code.turned("p 0; " + wrong);
            Code.traces("95 of " + wrong, row, 20095);
            Check.same("95 changes nothing", row.promises() + row.jobs() + row.timers(), 1);
        }
    }

    private static void calls() {
        EventloopRow row = Code.turned("v 0 1; c 1 1; l 0; l 1; w 1; l 1", "v 0 2; l 0; x 0; l 0");
        Code.traces("c", row, 2, 1, 10000, 2);
        row = Code.turned("c 1 1; v 0 1; l 0; w 1; l 1", "w 0; v 0 3; l 0; x 0");
        Code.traces("c until it waits", row, 1, 3, 3);
        row = Code.turned("c 0 1; b 0 3; w 0; l 0", "v 0 4; T 0");
        Code.traces("c that ends by a number", row, 4);
        Check.sign("c rejected", row.stateOf(0), 'r');
        row = Code.turned("q 0 1; v 0 1; l 0", "v 0 2; l 0; v 0 3; T 0");
        Code.traces("q", row, 1, 2, 20003);
    }

    private static void deepCalls() {
        // Each run traces what its call throws; the 30th one may not call.
        EventloopRow row = Code.turned("b 0 3; c 0 0; x 0; l 0; l 1; T 0");
        Check.same("96", row.traceAt(0), 96);
        Check.same("30 runs, the first one without a promise", row.promises(), 29);
        Check.same("ends by 96", row.numberOf(28), 96);
        row.post(0);
        row.turn(1);
        Check.same("58 promises", row.promises(), 58);
        row.post(0);
        row.turn(1);
        Check.same("60 promises", row.promises(), 60);
        Check.same("93", row.numberOf(59), 93);
        Check.same("the one that calls follows it", row.numberOf(58), 93);
        Check.same("nobody handled it", row.traceAt((int) row.traced() - 1), 30058);
        EventloopRow again = Code.turned("c 0 1", "w 3; c 0 2", "c 0 2");
        Check.same("a run that goes on stands alone", again.promises(), 1 + 29);
    }

    private static void manyPromises() {
        EventloopRow row = new EventloopRow();
        for (int i = 0; i < 5; i++) {
            row.addFunction();
        }
        Code.fill(row, 0, "p 0; p 0; p 0; p 0; p 0; p 0; p 0; p 0; p 0; p 0; p 0; p 0; p 0; p 0; p 0");
        Code.fill(row, 1, "p 0; A 1 0 2; l 3; p 0");
        Code.fill(row, 2, "p 0; h 0 -1 -1; p 0");
        Code.fill(row, 3, "c 0 4; l 0; b 0 4; A 0 0 0; b 0 6; h 0 -1 -1; h 0 7 7");
        Code.fill(row, 4, "v 0 5; l 0");
        for (int function : new int[] {0, 0, 0, 1, 1, 1}) {
            row.post(function);
        }
        row.turn(6);
        // 45, then 45 + 1 + 3 + 1 = 50, 55, and 55 + 1 + 3 + 1 = 60.
        Check.same("60", row.promises(), 60);
        Code.traces("60 are room enough", row, 0, 0, 0);
        for (int function : new int[] {0, 1, 2, 3}) {
            row.post(function);
        }
        row.turn(4);
        Code.traces("93, behind 92 and 95", row, 0, 0, 0, 20093, 20093, 20093, 20093);
        Check.same("60", row.promises(), 60);
        for (int room = 0; room <= 6; room++) {
            roomForAll(room);
        }
    }

    /** 'A' with two promises and two numbers needs three new ones, and takes none if there are fewer. */
    private static void roomForAll(int room) {
        EventloopRow row = new EventloopRow();
        Code.function(row, "p 0; p 0; p 0; p 0; p 0; p 0; p 0; p 0; p 0; p 0; p 0");
        Code.function(row, "p 0");
        Code.function(row, "p 0; p 3; A 0 0 3");
        for (int i = 0; i < 5; i++) {
            row.post(0);
        }
        for (int i = room; i < 3; i++) {
            row.post(1);
        }
        row.post(2);
        row.turn(10);
        int before = 55 + Math.max(0, 3 - room) + 2;
        Check.same("room for " + (60 - before), row.promises(), before <= 57 ? before + 3 : before);
        Check.same("room for " + (60 - before), row.traced(), before <= 57 ? 0 : 1);
    }

    private static void waits() {
        EventloopRow row = Code.turned("q 0 1; v 0 4; v 1 1; l 1; w 0; l 0; l 1", "v 0 2; l 0");
        Code.traces("w of a number", row, 1, 2, 4, 1);
        Check.same("jobs", row.jobs(), 2);
        row = Code.turned("p 2; v 0 6; R 2 0; q 0 1; w 2; l 2; l 0", "v 0 2; l 0");
        Code.traces("w of a fulfilled one", row, 2, 6, 6);
        Check.same("w makes no promise", row.promises(), 1);
        row = Code.turned("p 2; v 0 6; X 2 0; w 2; l 2");
        Code.traces("w of a rejected one", row, 20006);
        row = Code.turned("b 0 5; p 2; v 0 6; X 2 0; w 2; l 0; l 2; T 0");
        Code.traces("w of a rejected one with a handler", row, 6, 10000, 20006);
        row = Code.turned("p 0; v 1 6; X 0 1; b 0 5; w 0; w 0; l 0; w 2; l 0; w 0; l 0");
        Code.traces("a number behind a rejected one", row, 6, 6, 6);
        row = Code.turned("p 0; w 0; l 0");
        Code.traces("w for ever", row);
        Check.same("no job", row.jobs(), 0);
        row = Code.turned("c 0 1; w 0; l 0; T 0", "c 0 2; w 0; l 0; v 0 2; w 0; + 0 0; x 0", "v 0 1; w 0; x 0");
        Code.traces("waits within waits", row, 1, 4, 20004);
    }

    private static void reactions() {
        EventloopRow row = Code.turned("p 0; m 1 0; m 2 0; h 1 1 2; h 2 1 -1; v 3 8; R 0 3; h 0 1 2; l 3",
                "l 0; + 0 0; x 0", "v 0 9; l 0");
        Code.traces("h fulfilled", row, 8, 8, 8, 8);
        Check.same("promises", row.promises(), 4);
        for (int i = 1; i < 4; i++) {
            Check.same("resolved with what it ends with", row.numberOf(i), 16);
        }
        row = Code.turned("p 0; h 0 1 2; l 0; p 1; v 2 5; X 1 2; h 1 1 2", "l 0", "l 0; + 0 0; T 0");
        Code.traces("h rejected", row, 10001, 5, 30003);
        Check.sign("it waits", row.stateOf(1), 'w');
        Check.same("rejected with what it ends by", row.numberOf(3), 10);
        row = Code.turned("p 0; v 1 7; R 0 1; h 0 -1 1; w 0; l 0; p 0; X 0 1; h 0 1 -1; w 0; l 0", "l 3");
        Code.traces("h without a function", row, 7, 20007);
        Check.same("jobs of these", row.jobs(), 4);
        row = Code.turned("p 0; v 1 7; R 0 1; h 0 1 -1; w 0; l 0", "w 0; + 0 0; w 0; l 0; x 0");
        Code.traces("a reaction that waits", row, 14, 14);
    }

    private static void adoption() {
        EventloopRow row = Code.turned("p 0; p 1; R 0 1; v 2 5; R 0 2; X 0 2; h 0 1 -1; R 1 2", "l 0");
        Code.traces("R with a promise", row, 5);
        Check.same("jobs: put, alike, reaction", row.jobs(), 3);
        row = Code.turned("p 0; p 1; v 2 3; X 0 2; R 0 1; R 0 2; X 0 1");
        Code.traces("R of a rejected one", row, 20092, 30000);
        Check.same("no job", row.jobs(), 0);
        row = Code.turned("p 0; R 0 0; w 0; l 0");
        Code.traces("R with itself", row, 20094);
        row = Code.turned("p 0; v 1 3; R 0 1; R 0 0; X 0 1; v 1 4; R 0 1; w 0; l 0");
        Code.traces("R of a resolved one", row, 3);
        row = Code.turned("p 0; p 1; R 0 1; R 0 0; v 2 6; X 1 2; b 0 8; w 0; l 0; w 1; l 1");
        Code.traces("R of one that follows another one", row, 6, 20006);
        row = Code.turned("p 0; p 1; R 0 1; R 1 0");
        Code.traces("two that follow each other", row);
        Check.same("wait", row.stateOf(0) + row.stateOf(1), 'w' + 'w');
        row = Code.turned("c 0 1; w 0; l 0", "c 0 2; x 0", "v 0 4; w 0; x 0");
        Code.traces("a function that ends with a promise", row, 4);
    }

    private static void all() {
        EventloopRow row = Code.turned("p 0; v 1 3; m 2 0; A 0 0 3; l 0; v 3 4; R 2 3; w 0; l 0");
        Code.traces("A", row, 10001, 4 + 3 + 4);
        Check.same("A makes one for all, and one for each number", row.promises(), 4);
        Check.same("of r1", row.numberOf(2), 3);
        Check.same("of r3", row.numberOf(3), 0);
        row = Code.turned("p 0; p 1; v 2 3; A 3 0 1; X 1 2; v 2 4; X 0 2; w 3");
        Code.traces("A rejected", row, 20003);
        row = Code.turned("v 0 6; A 0 0 0; v 1 2; R 0 1; w 0; l 0");
        Code.traces("A that was resolved before", row, 2);
        row = Code.turned("p 0; A 1 0 0; v 2 5; X 0 2");
        Code.traces("A is not handled", row, 30001);
    }

    private static void ends() {
        EventloopRow row = Code.turned("c 0 1; m 1 0; w 1; l 1; p 2; x 2", "v 0 3; x 0; v 0 4");
        Code.traces("x", row, 3);
        Check.same("x with a number", row.numberOf(0), 3);
        row = new EventloopRow();
        Code.function(row, "v 0 5; t 0 0; v 1 6; T 1");
        row.post(0);
        row.turn(2);
        Code.traces("a timer ends by", row, 20006, 20006);
        row = Code.turned("q 0 1", "v 0 6; w 0; T 0");
        Code.traces("a job that waited ends by", row, 20006);
        row = Code.turned("v 0 9999; + 0 0; + 0 0; T 0");
        Code.traces("20000 plus the number", row, 20000 + 4 * 9999);
    }

    private static void stop() {
        EventloopRow row = Code.turned("p 0; v 1 6; X 0 1; q 0 1; w 0", "l 0; j 0 0");
        // 5 instructions, then 148 times l and 147 times j; what waited does not go on.
        Check.same("stopped", row.traced(), 148 + 1);
        Check.same("99999 is the last one", row.traceAt(148), 99999);
        EventloopRow exact = new EventloopRow();
        Code.function(exact, "q 0 1; q 0 1; q 0 1; q 0 1; q 0 1; q 0 1; q 0 1; q 0 1; q 0 1; q 0 1; c 1 1");
        Code.function(exact, "c 0 2; c 0 2; c 0 2; x 0");
        Code.function(exact, "e; e; e; e; e; e; e");
        exact.post(0);
        exact.turn(1);
        // 11 + 11 * (4 + 3 * 7) = 286
        Check.number("286", exact.meanInstructions(), 286);
        Check.same("not stopped", exact.traced(), 0);
        row = Code.turned("j 0 0");
        Code.traces("a 301st", row, 99999);
        Check.number("300", row.meanInstructions(), 300);
        row = Code.turned("q 0 1; q 0 1; q 0 1; j 0 0", "l 0");
        Code.traces("jobs are dropped", row, 99999);
        Check.same("none has run", row.jobs(), 0);
        row.post(1);
        row.turn(1);
        Code.traces("dropped for good", row, 99999, 0);
        row = Code.turned("p 0; v 1 1; X 0 1; j 0 3");
        Code.traces("rejections are looked at", row, 99999, 30000);
        row = edgeOfStop(2);
        Check.same("300 are not stopped", row.traced(), 0);
        row = edgeOfStop(3);
        Check.same("301 are stopped", row.traced(), 1);
        Check.same("301 are stopped", row.traceAt(0), 99999);
    }

    /** A turn of 298 instructions and these more. */
    private static EventloopRow edgeOfStop(int more) {
        StringBuilder rest = new StringBuilder();
        for (int i = 0; i < more; i++) {
            rest.append("e;");
        }
        // Each round is z, e, e, e, +, j: 2 + 49 * 6 + 1 (the z that leaves) = 297, then an e, then the rest.
        return Code.turned("v 0 -49; v 1 1; z 0 8; e; e; e; + 0 1; j 0 2; e;" + rest);
    }

    private static void stopInCalls() {
        EventloopRow row = Code.turned("c 0 1; l 0", "c 0 2; l 0", "w 0; j 0 1");
        Code.traces("it waits first", row, 10001, 10000, 99999);
        Check.sign("ends without anything", row.stateOf(1), 'w');
        Check.same("its promise", row.numberOf(0), 0);
        row = Code.turned("c 0 1; l 0", "c 0 2; l 0", "j 0 0");
        Code.traces("those that have called it", row, 99999);
        Check.same("wait", row.stateOf(0) + row.stateOf(1), 'w' + 'w');
        row.post(1);
        row.turn(1);
        Code.traces("the next turn", row, 99999, 99999);
        Check.same("its promise", row.promises(), 3);
        Check.number("300 each", row.meanInstructions(), 300);
    }
}
