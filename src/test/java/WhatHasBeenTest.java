import java.util.NoSuchElementException;

/** Promises 20 to 32: time and timers, the trace, promises, jobs and the figures. */
public final class WhatHasBeenTest {
    private static final Class<IndexOutOfBoundsException> INDEX = IndexOutOfBoundsException.class;
    private static final Class<NoSuchElementException> ELEMENT = NoSuchElementException.class;
    private static final Class<ArithmeticException> DIVIDED = ArithmeticException.class;

    public static void main(String[] args) {
        time();
        timers();
        manyTimers();
        timersInOrder();
        traced();
        traceAt();
        promises();
        stateOf();
        numberOf();
        unhandled();
        late();
        jobs();
        waitingShare();
        meanInstructions();
        isSound();
        Check.end();
    }

    private static void time() {
        EventloopRow row = new EventloopRow();
        Code.function(row, "v 0 5; t 0 1; v 0 2; t 0 2; t 0 1");
        Code.function(row, "v 0 51; l 0");
        Code.function(row, "v 0 52; l 0; v 0 3; t 0 3");
        Code.function(row, "v 0 53; l 0");
        row.post(0);
        Check.same("20: at first", row.time(), 0);
        row.turn(1);
        Check.same("20: no timer has run", row.time(), 0);
        row.turn(1);
        Check.same("20: the earliest", row.time(), 2);
        row.turn(1);
        Check.same("20: of the same time", row.time(), 2);
        row.turn(1);
        Check.same("20: the next", row.time(), 5);
        Check.same("20: two of one time", row.turn(5), 1);
        Check.same("20: two of one time", row.time(), 5);
        Code.traces("20: of several the one that was set first", row, 52, 51, 51, 53);
        EventloopRow far = new EventloopRow();
        Code.function(far, "v 0 9999; + 0 0; t 0 1; v 0 -9999; t 0 1");
        Code.function(far, "l 0");
        far.post(0);
        far.turn(2);
        Check.same("20: at least 0", far.time(), 0);
        far.turn(1);
        Check.same("20: at most 9999", far.time(), 9999);
        far.post(0);
        far.turn(1);
        Check.same("20: a task leaves it", far.time(), 9999);
        far.turn(10);
        Check.same("20: from the time on", far.time(), 2 * 9999);
    }

    private static void timers() {
        EventloopRow row = new EventloopRow();
        Code.function(row, "t 0 0; t 0 0");
        row.post(0);
        Check.same("21: none", row.timers(), 0);
        for (int i = 1; i <= 12; i++) {
            row.turn(1);
            Check.same("21: one more in each turn but the first one", row.timers(), i + 1);
        }
    }

    /** Fills and drains thousands of timers, and looks at the order in which they run. */
    private static void manyTimers() {
        EventloopRow row = new EventloopRow();
        Code.function(row, "v 0 40; v 1 -3; z 3 4; j 0 14; t 0 1; + 0 1; t 0 2; + 0 1; t 0 1; + 0 1; t 0 2; + 0 1;"
                + "q 0 3; j 0 4; e");
        Code.function(row, "v 0 1; l 0");
        Code.function(row, "v 0 2; l 0");
        Code.function(row, "e");
        for (int i = 0; i < 30; i++) {
            row.post(0);
        }
        row.turn(10);
        row.turn(10);
        row.turn(10);
        int set = row.timers();
        Check.yes("21: thousands " + set, set > 3500);
        long before = row.traced();
        int last = row.time();
        for (int i = 0; i < set / 10; i++) {
            Check.same("21: ten turns", row.turn(10), 10);
            if (i % 20 == 0) {
                Check.yes("20: the time does not go back", row.time() >= last);
                last = row.time();
            }
        }
        Check.same("21: those that are left", row.timers(), set % 10);
        Check.same("22: each has traced", row.traced() - before, set - set % 10);
        Check.yes("32: isSound", row.isSound());
    }

    /** Timers that are set with falling, rising and equal delays run in the order of the model. */
    private static void timersInOrder() {
        for (int step = 1; step <= 20; step++) {
            timersInOrder(step);
        }
    }

    private static void timersInOrder(int step) {
        EventloopRow row = new EventloopRow();
        Model model = new Model();
        String[] functions = {
            "v 0 9000; v 1 " + (7 - 20 * step) + "; t 0 3; + 0 1; t 0 4; + 0 1; t 0 5; + 0 1; t 0 6; + 0 1; j 0 2",
            "v 0 11; v 1 " + (31 * step % 71) + "; t 0 3; + 0 1; t 0 4; + 0 1; t 0 5; + 0 1; t 0 6; + 0 1; j 0 2",
            "v 0 5000; v 1 -71; t 0 3; + 0 1; t 0 4; + 0 1; t 1 5; + 1 1; j 0 2",
            "v 0 3; l 0", "v 0 4; l 0", "v 0 5; l 0; v 0 " + step % 7 + "; t 0 6", "v 0 6; l 0"};
        for (int i = 0; i < functions.length; i++) {
            Code.function(row, functions[i]);
            model.addFunction();
            for (String line : functions[i].split("; ")) {
                String[] words = (line + " 0 0").split(" ");
                model.add(i, words[0].charAt(0), Integer.parseInt(words[1]), Integer.parseInt(words[2]), 0);
            }
        }
        for (int function : new int[] {0, 1, step % 3, 1}) {
            row.post(function);
            model.post(function);
        }
        for (int i = 0; i < 45; i++) {
            Check.same("21: turns " + i, row.turn(10), model.turn(10));
            Check.same("20: time " + i, row.time(), model.time());
            Check.same("21: timers " + i, row.timers(), model.timers());
        }
        for (int i = 100; i < 400; i++) {
            Check.same("20: the order, traceAt(" + i + ")", row.traceAt(i), model.traceAt(i));
        }
    }

    private static void traced() {
        EventloopRow row = new EventloopRow();
        Code.function(row, "l 0; l 0; l 0; l 0; l 0; l 0; l 0; l 0; l 0; l 0; l 0; l 0; l 0; l 0; l 0; l 0");
        for (int i = 0; i < 26; i++) {
            row.post(0);
        }
        row.turn(10);
        Check.same("22: 160", row.traced(), 160);
        row.turn(10);
        row.turn(10);
        Check.same("22: counted alone", row.traced(), 26 * 16);
    }

    private static void traceAt() {
        EventloopRow row = new EventloopRow();
        Code.function(row, "v 0 7; l 0; l 0; l 0; l 0; l 0; l 0; l 0; l 0; l 0; l 0; l 0; l 0; l 0; l 0; l 1");
        row.post(0);
        Check.fails("23: none", INDEX, () -> row.traceAt(0));
        row.turn(1);
        Check.fails("23: -1", INDEX, () -> row.traceAt(-1));
        Check.fails("23: 15", INDEX, () -> row.traceAt(15));
        Check.same("23: the first", row.traceAt(0), 7);
        Check.same("23: the last", row.traceAt(14), 0);
        for (int i = 0; i < 29; i++) {
            row.post(0);
        }
        row.turn(10);
        row.turn(10);
        row.turn(9);
        Check.same("23: more than 400", row.traced(), 450);
        Check.same("23: 399", row.traceAt(399), 7);
        Check.same("23: 389", row.traceAt(389), 0);
        Check.fails("23: 400", INDEX, () -> row.traceAt(400));
        Check.fails("23: far", INDEX, () -> row.traceAt(Integer.MAX_VALUE));
    }

    private static void promises() {
        EventloopRow row = Code.turned("p 0; c 1 1; h 1 -1 -1; v 2 3; A 3 0 2; q 0 1; w 2", "w 0");
        // p, c, h, all and that of r2.
        Check.same("24", row.promises(), 5);
    }

    private static void stateOf() {
        EventloopRow row = Code.turned("p 0; p 1; p 2; v 3 5; R 0 3; X 1 3");
        Check.sign("25: fulfilled", row.stateOf(0), 'f');
        Check.sign("25: rejected", row.stateOf(1), 'r');
        Check.sign("25: waits", row.stateOf(2), 'w');
        Check.fails("25: 3", INDEX, () -> row.stateOf(3));
        Check.fails("25: -1", INDEX, () -> row.stateOf(-1));
        row.post(0);
        row.turn(1);
        Check.sign("25: 3", row.stateOf(3), 'f');
    }

    private static void numberOf() {
        EventloopRow row = Code.turned("p 0; p 1; p 2; v 3 5; R 0 3; + 3 3; X 1 3");
        Check.same("26: fulfilled", row.numberOf(0), 5);
        Check.same("26: rejected", row.numberOf(1), 10);
        Check.fails("26: waits", ELEMENT, () -> row.numberOf(2));
        Check.fails("26: 3", INDEX, () -> row.numberOf(3));
        Check.fails("26: -1", INDEX, () -> row.numberOf(-1));
    }

    private static void unhandled() {
        EventloopRow row = Code.turned("v 3 5; p 0; p 1; p 2; X 2 3; X 0 3; X 1 3; h 0 -1 -1; c 0 1; p 0; R 0 1",
                "T 0");
        // 3 is of h, 4 is of c, 5 follows 1.
        Code.traces("27: in the order of rejections", row, 30002, 30004, 30003, 30005);
        Check.same("27", row.unhandled(), 4);
        row.post(0);
        row.turn(1);
        Code.traces("27: each is told once", row, 30002, 30004, 30003, 30005, 30008, 30010, 30009, 30011);
        Check.same("27", row.unhandled(), 8);
        row = Code.turned("v 3 5; p 0; X 0 3; q 0 1; w 3; w 3; h 0 -1 1; w 0", "e");
        Code.traces("27: a reaction within the turn", row);
        Check.same("27: handled", row.unhandled(), 0);
    }

    /**
     * A run keeps its promises for itself, and all that waits when a turn has ended waits for ever: so nothing
     * gets a reaction behind the look at which it was told.
     */
    private static void late() {
        EventloopRow row = Code.turned("v 3 5; p 0; X 0 3; q 0 0; v 1 1; t 1 1",
                "v 3 5; p 0; X 0 3; w 3; h 0 -1 -1; w 0");
        Check.same("28: told at the end of the turn", row.late(), 0);
        row.post(0);
        row.post(1);
        row.turn(10);
        Check.same("28: none is late", row.late(), 0);
        Check.yes("27: many are told", row.unhandled() > 10);
    }

    private static void jobs() {
        EventloopRow row = Code.turned("w 0; q 0 1; q 0 1; p 0; R 0 1; h 0 1 -1; w 0", "e");
        // w, q, q, reaction, w.
        Check.same("29", row.jobs(), 5);
        row.post(1);
        row.turn(1);
        Check.same("29: a task is none", row.jobs(), 5);
        row = Code.turned("q 0 1; q 0 1; q 0 1", "l 0; j 0 0");
        Check.same("29: those that are dropped have not run", row.jobs(), 1);
    }

    private static void waitingShare() {
        EventloopRow row = new EventloopRow();
        Code.function(row, "v 3 5; p 0; R 0 3; p 0; p 0");
        Check.fails("30: none", DIVIDED, row::waitingShare);
        row.post(0);
        row.turn(1);
        Check.number("30: in float", row.waitingShare(), 2f / 3f);
        Check.number("30: none waits", Code.turned("p 0; R 0 3").waitingShare(), 0);
        Check.number("30: all wait", Code.turned("p 0; p 0").waitingShare(), 1);
    }

    private static void meanInstructions() {
        EventloopRow row = new EventloopRow();
        Code.function(row, "e; e; j 0 4; e; w 0; e");
        Code.function(row, "e; T 0; e");
        Code.function(row, "");
        Check.fails("31: no turn", DIVIDED, row::meanInstructions);
        row.turn(1);
        Check.fails("31: none was done", DIVIDED, row::meanInstructions);
        row.post(0);
        row.post(1);
        row.post(2);
        row.turn(1);
        Check.number("31", row.meanInstructions(), 5);
        row.turn(1);
        Check.number("31", row.meanInstructions(), 3.5);
        row.turn(1);
        Check.number("31: in double", row.meanInstructions(), 7.0 / 3.0);
    }

    private static void isSound() {
        EventloopRow row = new EventloopRow();
        Check.yes("32: new", row.isSound());
        row.addObject(-1);
        row.addProxy(0);
        row.revoke(1);
        for (int key : new int[] {15, 3, 19, 0, 9, 10}) {
            row.set(0, key, key);
            Check.yes("32: listed", row.isSound());
        }
        for (int key : new int[] {3, 15, 10}) {
            row.delete(0, key);
            Check.yes("32: deleted", row.isSound());
        }
        Code.function(row, "p 0; h 0 -1 -1; w 0; e");
        Code.function(row, "q 0 1; j 0 0");
        row.post(0);
        row.turn(1);
        Check.yes("32: reactions of one that waits", row.isSound());
        row.post(1);
        row.turn(1);
        Check.yes("32: stopped", row.isSound());
    }
}
