import java.util.ArrayList;
import java.util.Arrays;
import java.util.Comparator;
import java.util.List;

/** The boundaries that the document names under 'Tasks and time', and those of promises 18 to 32. */
public final class TurnEdgesTest {
    public static void main(String[] args) {
        aNewObject();
        mostTasks();
        tasksThatWait();
        turnsThatAreDone();
        turnsWithoutWork();
        tasksAheadOfTimers();
        jobsWithinTheTurn();
        jobsInTheirOrder();
        delays();
        delaysOfAllInts();
        delaysFromTheTimeOn();
        timersOfOneTime();
        timersOfOneTimeInAllOrders();
        timersInAllOrders();
        timersThatWait();
        oneTimerEachTurn();
        lookedAtInTheirOrder();
        lookedAtOnce();
        handledInTime();
        whatIsNoReaction();
        noneIsLate();
        threeHundred();
        threeHundredInJobs();
        threeHundredInCalls();
        theLastOneThrows();
        theLastOneEnds();
        theNextTurnAgain();
        allJobsAreDropped();
        thoseThatCalledEnd();
        rejectionsAllTheSame();
        mostTraced();
        othersAreCounted();
        jobsThatHaveRun();
        sharesThatWait();
        meansOfTurns();
        soundAllTheTime();
        Check.end();
    }

    /** Creates a language without objects and functions, at the time 0. */
    private static void aNewObject() {
        EventloopRow row = new EventloopRow();
        Check.same("time", row.time(), 0);
        Check.same("timers", row.timers(), 0);
        Check.same("traced", row.traced(), 0);
        Check.same("promises", row.promises(), 0);
        Check.same("unhandled", row.unhandled(), 0);
        Check.same("late", row.late(), 0);
        Check.same("jobs", row.jobs(), 0);
        Check.yes("isSound", row.isSound());
        Check.fails("waitingShare", ArithmeticException.class, row::waitingShare);
        Check.fails("meanInstructions", ArithmeticException.class, row::meanInstructions);
        Check.fails("traceAt", IndexOutOfBoundsException.class, () -> row.traceAt(0));
        Check.fails("stateOf", IndexOutOfBoundsException.class, () -> row.stateOf(0));
        Check.fails("numberOf", IndexOutOfBoundsException.class, () -> row.numberOf(0));
        Check.same("turn", row.turn(10), 0);
        Check.same("the first object", row.addObject(-1), 0);
        Check.same("the first function", row.addFunction(), 0);
        EventloopRow other = new EventloopRow();
        Check.fails("another one has none of these", IndexOutOfBoundsException.class, () -> other.keys(0));
        Check.fails("another one has none of these", IndexOutOfBoundsException.class, () -> other.post(0));
    }

    /** 30 tasks can be added, whether they wait or not. */
    private static void mostTasks() {
        for (int turns = 0; turns <= 10; turns += 5) {
            EventloopRow row = Code.language("v 0 4; l 0");
            for (int i = 0; i < 15; i++) {
                row.post(0);
            }
            for (int i = 0; i < turns; i++) {
                row.turn(1);
            }
            for (int i = 16; i <= 30; i++) {
                Check.same("task " + i + " behind " + turns, row.post(0), i - turns);
            }
            Check.fails("a 31st behind " + turns, IllegalStateException.class, () -> row.post(0));
            for (int i = turns; i < 30; i += 5) {
                Check.same("they run", row.turn(5), 5);
            }
            Check.fails("a 31st, none waits", IllegalStateException.class, () -> row.post(0));
            Check.same("no more", row.turn(1), 0);
            Check.same("30 have run", row.traced(), 30);
        }
    }

    /** Returns the number of tasks that wait. */
    private static void tasksThatWait() {
        EventloopRow row = Code.language("t 3 1", "");
        Check.same("one", row.post(0), 1);
        Check.same("two", row.post(1), 2);
        row.turn(1);
        Check.same("one has run, a timer is no task", row.post(1), 2);
        row.turn(10);
        Check.same("all have run", row.post(1), 1);
    }

    /** 1 to 10 turns. */
    private static void turnsThatAreDone() {
        for (int turns = 1; turns <= 10; turns++) {
            for (int tasks = turns - 1; tasks <= turns + 1; tasks++) {
                EventloopRow row = Code.language("l 0");
                for (int i = 0; i < tasks; i++) {
                    row.post(0);
                }
                Check.same(turns + " turns of " + tasks, row.turn(turns), Math.min(turns, tasks));
                Check.same(turns + " turns of " + tasks, row.traced(), Math.min(turns, tasks));
                Check.same("those that are left", row.turn(10), Math.max(0, tasks - turns));
            }
        }
        EventloopRow row = Code.language("t 3 0");
        row.post(0);
        Check.same("a timer that is set in a turn", row.turn(10), 10);
        Check.same("one waits", row.timers(), 1);
    }

    private static void turnsWithoutWork() {
        EventloopRow row = Code.language("p 0; w 0");
        Check.same("no task", row.turn(1), 0);
        Check.same("so functions can be added", row.addFunction(), 1);
        row.post(0);
        Check.same("a task", row.turn(2), 1);
        Check.same("a run that waits for ever is no work", row.turn(1), 0);
        Check.number("turns that were not done do not count", row.meanInstructions(), 2);
    }

    /** If there is a task, the first one runs; otherwise, if there is a timer. */
    private static void tasksAheadOfTimers() {
        EventloopRow row = Code.language("v 0 1; l 0; t 3 2", "v 0 2; l 0", "v 0 3; l 0");
        row.post(0);
        row.post(1);
        row.turn(1);
        row.post(1);
        Check.same("time", row.time(), 0);
        row.turn(10);
        Code.traces("tasks first, in their order", row, 1, 2, 2, 3);
        row = Code.language("v 0 7; t 0 1", "v 0 2; l 0", "v 0 3; l 0; v 0 2; t 0 1");
        row.post(0);
        row.turn(2);
        row.post(2);
        row.turn(1);
        Check.same("a task leaves the time", row.time(), 7);
        row.turn(1);
        Check.same("and goes on from it", row.time(), 9);
    }

    /** Then jobs run until there is none, ahead of the next task. */
    private static void jobsWithinTheTurn() {
        EventloopRow row = Code.language("q 0 1; v 0 1; l 0", "v 0 2; l 0; q 0 2",
                "v 0 3; l 0; w 0; v 0 4; l 0", "v 0 9; l 0");
        row.post(0);
        row.post(3);
        row.turn(1);
        Code.traces("the jobs that jobs add too", row, 1, 2, 3, 4);
        Check.same("jobs", row.jobs(), 3);
        row.turn(1);
        Code.traces("the next task", row, 1, 2, 3, 4, 9);
    }

    /** The first one first. */
    private static void jobsInTheirOrder() {
        EventloopRow row = Code.turned("q 0 1; q 0 2; q 0 3; q 0 1", "v 0 1; l 0; q 0 3", "v 0 2; l 0; w 0; v 0 4; l 0",
                "v 0 3; l 0");
        Code.traces("jobs", row, 1, 2, 3, 1, 3, 4, 3);
    }

    /** As many units of time as r(a), at least 0 and at most 9999. */
    private static void delays() {
        for (int delay : new int[] {-9999, -1, 0, 1, 2, 9998, 9999, 10000, 10001, 19998}) {
            int first = Math.min(9999, delay);
            EventloopRow row = Code.language("v 0 " + first + "; v 1 " + (delay - first) + "; + 0 1; t 0 1", "l 0");
            row.post(0);
            row.turn(1);
            Check.same("a timer of " + delay, row.timers(), 1);
            row.turn(1);
            Check.same("a timer of " + delay, row.time(), Math.max(0, Math.min(9999, delay)));
            Check.same("it has run", row.timers(), 0);
        }
    }

    private static void delaysOfAllInts() {
        String most = Code.twoTo(30) + "v 1 -1; + 1 0; + 0 1;";
        EventloopRow row = Code.language(most + "t 0 1", "");
        row.post(0);
        row.turn(2);
        Check.same("the most int", row.time(), 9999);
        row.post(0);
        row.turn(2);
        Check.same("the most int, from there", row.time(), 2 * 9999);
        row = Code.language(most + "+ 0 2; t 0 1", "");
        row.post(0);
        row.turn(2);
        Check.same("the least int", row.time(), 0);
    }

    private static void delaysFromTheTimeOn() {
        EventloopRow row = Code.language("v 0 9999; t 0 0");
        row.post(0);
        row.turn(1);
        for (int i = 1; i <= 400; i++) {
            row.turn(1);
        }
        Check.same("400 times the longest one", row.time(), 400 * 9999);
    }

    /** The earliest one, of several that were set the first one. */
    private static void timersOfOneTime() {
        EventloopRow row = Code.language("v 0 5; t 0 1; t 0 2; v 0 4; t 0 3; t 0 2; t 0 1; v 0 5; t 0 3; t 0 1",
                "v 0 1; l 0", "v 0 2; l 0", "v 0 3; l 0");
        row.post(0);
        row.turn(10);
        Code.traces("4 ahead of 5", row, 3, 2, 1, 1, 2, 3, 1);
        row = Code.language("v 0 5; t 0 1; t 0 2", "v 0 1; l 0; t 3 3", "v 0 2; l 0", "v 0 3; l 0");
        row.post(0);
        row.turn(10);
        Code.traces("one that is set for now is behind those that wait for now", row, 1, 2, 3);
        Check.same("all at one time", row.time(), 5);
        row = Code.language("v 0 5; t 0 1; v 0 2; t 0 2", "v 0 1; l 0", "v 0 2; l 0; v 0 3; t 0 3", "v 0 3; l 0");
        row.post(0);
        row.turn(10);
        Code.traces("one of a time that was set earlier", row, 2, 1, 3);
    }

    /** Sets a timer for each of the delays, and looks at their order: as a list that keeps order sorts. */
    private static void timersRun(int[] delays) {
        EventloopRow row = new EventloopRow();
        row.addFunction();
        List<Integer> due = new ArrayList<>();
        for (int i = 0; i < delays.length; i++) {
            row.add(0, 'v', 0, delays[i], 0);
            row.add(0, 't', 0, row.addFunction(), 0);
            row.add(i + 1, 'v', 0, i, 0);
            row.add(i + 1, 'l', 0, 0, 0);
            due.add(i);
        }
        due.sort(Comparator.comparing(i -> delays[i]));
        row.post(0);
        row.turn(10);
        String what = "timers of " + Arrays.toString(delays);
        for (int i = 0; i < delays.length; i++) {
            Check.same(what, row.traceAt(i), due.get(i));
        }
        Check.same(what, row.timers(), 0);
    }

    private static void timersOfOneTimeInAllOrders() {
        for (int which = 0; which < 2187; which++) {
            int[] delays = new int[7];
            for (int i = 0, rest = which; i < 7; i++, rest /= 3) {
                delays[i] = rest % 3;
            }
            timersRun(delays);
        }
    }

    private static void timersInAllOrders() {
        for (int count = 1; count <= 7; count++) {
            timersInAllOrders(new int[count], 0);
        }
    }

    private static void timersInAllOrders(int[] delays, int set) {
        if (set == delays.length) {
            timersRun(delays);
            return;
        }
        for (int i = 0; i < delays.length; i++) {
            if (delays[i] == 0) {
                delays[i] = set + 1;
                timersInAllOrders(delays, set + 1);
                delays[i] = 0;
            }
        }
    }

    /** Returns the number of timers. */
    private static void timersThatWait() {
        EventloopRow row = Code.language("t 0 1; t 0 1; t 0 1", "");
        row.post(0);
        for (int due : new int[] {3, 2, 1, 0, 0}) {
            row.turn(1);
            Check.same("timers", row.timers(), due);
        }
        EventloopRow all = Code.language("t 0 1; j 0 0", "");
        for (int i = 1; i <= 30; i++) {
            all.post(0);
            all.turn(1);
            Check.same("150 more in each turn", all.timers(), 150 * i);
        }
    }

    private static void oneTimerEachTurn() {
        EventloopRow row = Code.language("v 0 3; t 0 1; t 0 1; v 0 4; t 0 1", "v 0 1; l 0");
        row.post(0);
        row.turn(1);
        for (int turn = 1; turn <= 3; turn++) {
            Check.same("a turn", row.turn(1), 1);
            Check.same("one has run", row.traced(), turn);
            Check.same("time", row.time(), turn < 3 ? 3 : 4);
        }
        Check.same("no more", row.turn(1), 0);
        Check.same("the time stays", row.time(), 4);
    }

    /** Each promise that was rejected since the last look, in this order. */
    private static void lookedAtInTheirOrder() {
        EventloopRow row = Code.language("p 0; p 1; p 2; v 3 5; X 2 3; X 0 3; X 1 3; l 3",
                "p 0; p 1; v 3 5; q 0 2; X 1 3; R 0 0", "p 0; v 3 1; X 0 3; p 0");
        row.post(0);
        row.turn(1);
        Code.traces("as they were rejected", row, 5, 30002, 30000, 30001);
        Check.same("not handled", row.unhandled(), 3);
        row.post(1);
        row.turn(1);
        Code.traces("those of jobs behind", row, 5, 30002, 30000, 30001, 30004, 30003, 30005);
        Check.same("not handled", row.unhandled(), 6);
    }

    private static void lookedAtOnce() {
        EventloopRow row = Code.language("p 0; v 3 5; X 0 3", "");
        row.post(0);
        row.post(1);
        row.post(1);
        row.turn(3);
        Code.traces("told in one turn alone", row, 30000);
        Check.same("counted once", row.unhandled(), 1);
    }

    /** And has had no reaction put on it: ahead of the rejection, behind it, in a job, of each kind. */
    private static void handledInTime() {
        String[] in = {"w 0", "h 0 -1 1", "A 0 0 0; h 0 -1 1", "p 2; R 2 0; h 2 -1 1"};
        for (String reaction : in) {
            EventloopRow row = Code.turned("p 0; m 1 0; v 3 5; X 0 3; " + "b 0 15; " + reaction, "e");
            Check.same("behind it: " + reaction, row.unhandled(), 0);
            row = Code.turned("p 0; m 1 0; v 3 5; X 0 3; w 3; w 3; w 3; b 0 15; " + reaction, "e");
            Check.same("in a job: " + reaction, row.unhandled(), 0);
        }
        for (String reaction : new String[] {"h 0 1 1", "A 0 0 0; h 0 -1 1", "p 2; R 2 0; h 2 -1 1"}) {
            EventloopRow row = Code.turned("p 0; m 1 0; v 3 5; b 0 15; " + reaction + "; X 1 3", "e");
            Check.same("ahead of it: " + reaction, row.unhandled(), 0);
        }
        EventloopRow row = Code.turned("p 0; m 1 0; v 3 5; h 0 1 -1; X 1 3", "");
        Code.traces("the new promise of the reaction is not handled", row, 30001);
        row = Code.turned("p 0; v 3 5; X 0 3; p 2; R 2 0");
        Code.traces("the one that follows it is not handled", row, 30001);
    }

    private static void whatIsNoReaction() {
        for (String no : new String[] {"l 0", "m 1 0", "R 0 3", "X 0 3", "z 0 15", "h 0 7 7", "c 2 1"}) {
            EventloopRow row = Code.turned("p 0; v 3 5; X 0 3; b 0 15; " + no, "");
            Check.same("not handled by " + no, row.unhandled(), 1);
            Check.same("not handled by " + no, row.traceAt((int) row.traced() - 1), 30000);
        }
        EventloopRow row = Code.turned("c 0 1", "v 3 6; T 3");
        Code.traces("the one of a call", row, 30000);
        row = Code.turned("p 0; v 3 6; R 0 3");
        Check.same("a fulfilled one", row.unhandled(), 0);
    }

    /** No register holds a promise of an earlier turn, so nothing is handled late. */
    private static void noneIsLate() {
        EventloopRow row = Code.language("p 0; v 3 5; X 0 3; t 3 1; q 0 1", "p 0; v 3 5; X 0 3; w 3; h 0 -1 -1; w 0");
        for (int i = 0; i < 12; i++) {
            row.post(i % 2);
            row.turn(2);
            Check.same("late", row.late(), 0);
        }
        Check.yes("not handled", row.unhandled() >= 6);
    }

    /** A text of so many instructions, as a round of e, +, z and j, and what is over, as e; at most 16 places. */
    private static String of(int instructions) {
        // Two ahead, then rounds of six and the z that leaves.
        int rounds = (instructions - 3) / 6;
        int over = instructions - 3 - 6 * rounds;
        return "v 0 " + -rounds + "; v 1 1; z 0 8; e; e; e; + 0 1; j 0 2;" + "e;".repeat(over);
    }

    /** A turn that would carry out a 301st instruction stops. */
    private static void threeHundred() {
        for (int instructions = 294; instructions <= 306; instructions++) {
            EventloopRow row = Code.turned(of(instructions));
            Check.number(instructions + " instructions", row.meanInstructions(), Math.min(300, instructions));
            if (instructions <= 300) {
                Code.traces(instructions + " instructions", row);
            } else {
                Code.traces(instructions + " instructions", row, 99999);
            }
        }
    }

    private static void threeHundredInJobs() {
        for (int instructions = 296; instructions <= 298; instructions++) {
            EventloopRow row = Code.turned("q 0 1; q 0 2; q 0 3", of(instructions), "l 0", "", "");
            // Three and the one of the second job; the third one has none.
            if (instructions <= 296) {
                Code.traces("with jobs, " + instructions, row, 0);
                Check.same("with jobs, " + instructions, row.jobs(), 3);
            } else {
                Code.traces("with jobs, " + instructions, row, 99999);
                Check.same("with jobs, " + instructions, row.jobs(), 299 - instructions);
            }
            Check.number("with jobs, " + instructions, row.meanInstructions(), 300);
        }
        EventloopRow row = Code.turned("q 0 2; q 0 2; q 0 1", of(297), "");
        Code.traces("jobs without an instruction", row);
        Check.same("jobs without an instruction", row.jobs(), 3);
    }

    private static void threeHundredInCalls() {
        for (int instructions = 298; instructions <= 300; instructions++) {
            EventloopRow row = Code.turned("c 3 1; x 3", of(instructions));
            if (instructions <= 298) {
                Code.traces("in a call, " + instructions, row);
            } else {
                Code.traces("in a call, " + instructions, row, 99999);
            }
            Check.number("in a call, " + instructions, row.meanInstructions(), 300);
            // The called one has ended in its 299th one, but not in its 300th.
            Check.sign("its promise", row.stateOf(0), instructions <= 299 ? 'f' : 'w');
        }
    }

    /** What the 300th instruction throws is caught, or ends the run; a handler's instruction would be the 301st. */
    private static void theLastOneThrows() {
        EventloopRow row = Code.turned(of(299) + "T 3; l 0");
        Code.traces("without a handler", row, 20000);
        row = Code.turned("b 0 2; c 3 1; l 0", of(297) + "T 3");
        Code.traces("in a call", row, 99999, 30000);
        Check.sign("in a call", row.stateOf(0), 'r');
        String handled = "b 0 13; v 0 -48; v 1 1; z 0 9; e; e; e; + 0 1; j 0 3; v 0 2; v 0 3; b 0 13; T 0; l 0";
        row = Code.turned("c 3 1", handled);
        // 1 + 3 + 48 * 6 + 1 + 4 = 297
        Check.same("the handler still goes on", row.traceAt(0), 3);
        row = Code.turned("e; e; e; c 3 1", handled);
        Code.traces("the handler is one too many", row, 99999);
        Check.sign("the called one ends without anything", row.stateOf(0), 'w');
    }

    /** Behind the last instruction a function ends: this is none more. */
    private static void theLastOneEnds() {
        EventloopRow row = Code.turned("c 3 1", of(299));
        Code.traces("the called one and the one that calls", row);
        Check.same("the promise", row.numberOf(0), 0);
        row = Code.turned("c 3 1", of(297) + "v 2 7; x 2");
        Code.traces("x is the 300th", row);
        Check.same("x is the 300th", row.numberOf(0), 7);
        row = Code.turned("c 3 1", of(298) + "v 2 7; x 2");
        Code.traces("x would be the 301st", row, 99999);
        Check.sign("x would be the 301st", row.stateOf(0), 'w');
        row = Code.turned(of(299) + "w 0");
        Code.traces("w is the 300th", row);
        Check.same("a job without an instruction", row.jobs(), 1);
        row = Code.turned(of(299) + "w 0; e");
        Code.traces("w is the 300th, and e would be the next", row, 99999);
        Check.same("its job has begun", row.jobs(), 1);
    }

    /** Each turn has 300 of its own. */
    private static void theNextTurnAgain() {
        EventloopRow row = Code.language(of(300), of(301), "j 0 0");
        for (int function : new int[] {0, 0, 1, 2, 0}) {
            row.post(function);
        }
        Check.same("a turn that stops is done too", row.turn(10), 5);
        Code.traces("two of five stop", row, 99999, 99999);
        Check.number("300 each", row.meanInstructions(), 300);
        row = Code.language("t 0 1; t 0 1; j 0 2", "v 0 1; l 0");
        row.post(0);
        row.turn(1);
        Check.same("timers are not dropped", row.timers(), 2);
        row.post(1);
        Check.same("tasks are not dropped", row.turn(10), 3);
        Code.traces("they run behind it", row, 99999, 1, 1, 1);
    }

    private static String forEver(String text) {
        return text + "; j 0 " + text.split(";").length;
    }

    /** All jobs are dropped. */
    private static void allJobsAreDropped() {
        String[] jobs = {"q 0 1", "h 0 1 1", "h 0 -1 -1", "p 2; R 2 0", "A 2 0 1", "c 2 2"};
        for (char letter : new char[] {'R', 'X'}) {
            for (String job : jobs) {
                String text = forEver("p 0; m 1 0; v 3 5; " + letter + " 0 3; " + job);
                EventloopRow row = Code.language(text, "l 3", "w 3; l 3", "");
                row.post(0);
                row.turn(1);
                Check.same("dropped: " + job, row.traceAt(0), 99999);
                Check.same("dropped: " + job, row.jobs(), 0);
                Check.yes("no job waits: " + job, row.isSound());
                row.post(3);
                row.turn(1);
                Check.same("nor comes again: " + job, row.jobs(), 0);
                if (row.promises() > 1) {
                    Check.sign("its promise waits: " + job, row.stateOf(1), 'w');
                }
            }
        }
        EventloopRow row = Code.language("q 0 1; j 0 1", "v 0 2; l 0", "q 0 1; q 0 1");
        row.post(0);
        row.post(2);
        row.turn(2);
        Code.traces("the jobs of the next turn are its own", row, 99999, 2, 2);
    }

    /** The run that is under way, and those that have called it, end without anything. */
    private static void thoseThatCalledEnd() {
        EventloopRow row = Code.turned("b 0 2; c 0 1; l 0; x 0", "b 0 2; c 0 2; l 0; x 0", "b 0 2; j 0 1; l 0; x 0");
        Code.traces("no handler, no number", row, 99999);
        Check.sign("the promise of the one that has called", row.stateOf(0), 'w');
        Check.sign("the promise of the one under way", row.stateOf(1), 'w');
        row = Code.turned("p 0; v 1 3; R 0 1; h 0 1 -1; m 2 0; h 2 1 1", "j 0 0");
        Code.traces("a reaction under way", row, 99999);
        Check.sign("its promise", row.stateOf(1), 'w');
        row = Code.turned("c 0 1; p 1; h 1 -1 -1; w 3; j 0 4", "w 3; w 0; x 0");
        Code.traces("one that waits", row, 99999);
        Check.sign("one that waits", row.stateOf(0), 'w');
    }

    /** Rejections are looked at all the same. */
    private static void rejectionsAllTheSame() {
        EventloopRow row = Code.language("p 0; v 1 1; X 0 1; p 0; X 0 1; h 0 -1 -1; j 0 6", "");
        row.post(0);
        row.post(1);
        row.turn(1);
        Code.traces("behind 99999, and the one with a reaction not", row, 99999, 30000);
        Check.same("not handled", row.unhandled(), 1);
        row.turn(1);
        Code.traces("not once more", row, 99999, 30000);
        row = Code.turned("c 0 1; j 0 1", "T 0");
        Code.traces("of a call", row, 99999, 30000);
    }

    /** A language that has traced so many numbers; its functions 2 to 5 trace one more each, in a way of their own. */
    private static EventloopRow afterTraced(int count) {
        EventloopRow row = Code.language("v 0 -50; v 1 1; z 0 6; l 1; + 0 1; j 0 2",
                "v 0 7;" + "l 0;".repeat(15), "v 0 8; l 0", "v 0 9; T 0", "p 0; v 1 1; X 0 1", "j 0 0");
        for (int left = count; left > 0;) {
            int function = left >= 50 ? 0 : left >= 15 ? 1 : 2;
            row.post(function);
            row.turn(1);
            left -= function == 0 ? 50 : function == 1 ? 15 : 1;
        }
        Check.same("traced ahead", row.traced(), count);
        return row;
    }

    /** At most 400 numbers are traced. */
    private static void mostTraced() {
        for (int count = 397; count <= 403; count++) {
            EventloopRow row = afterTraced(count);
            int kept = Math.min(400, count);
            Check.same("the first of " + count, row.traceAt(0), 1);
            Check.same("the last of " + count, row.traceAt(kept - 1), count < 400 ? 8 : 1);
            Check.fails("behind the last of " + count, IndexOutOfBoundsException.class, () -> row.traceAt(kept));
            Check.fails("as many as there are", IndexOutOfBoundsException.class, () -> row.traceAt((int) row.traced()));
        }
        EventloopRow row = afterTraced(350);
        row.post(0);
        row.turn(1);
        row.post(1);
        row.turn(1);
        Check.same("over 400 at once", row.traced(), 415);
        Check.same("over 400 at once", row.traceAt(399), 1);
    }

    /** Others are counted alone: what 'l' traces, what a run ends by, a rejection, and a turn that stops. */
    private static void othersAreCounted() {
        int[] due = {8, 20009, 30000, 99999};
        for (int function = 2; function <= 5; function++) {
            EventloopRow row = afterTraced(399);
            String what = "traced by the function " + function;
            for (int i = 0; i < 2; i++) {
                row.post(function);
                row.turn(1);
                Check.same(what, row.traced(), 400 + i);
                Check.same(what, row.traceAt(399), due[function - 2]);
                Check.fails(what, IndexOutOfBoundsException.class, () -> row.traceAt(400));
            }
            Check.same(what + ": not handled", row.unhandled(), function == 4 ? 2 : 0);
        }
        EventloopRow row = Code.language("t 3 0; v 0 7; l 0; j 0 2");
        row.post(0);
        for (int i = 0; i < 45; i++) {
            row.turn(10);
        }
        // Two instructions, then 149 times l and j, and 99999.
        Check.same("450 turns", row.traced(), 450L * 150);
        Check.same("the 150th", row.traceAt(149), 99999);
        Check.same("the 400th", row.traceAt(399), 7);
    }

    /** Returns how many jobs have run. */
    private static void jobsThatHaveRun() {
        Check.same("q", Code.turned("q 0 1; q 0 1", "").jobs(), 2);
        Check.same("w of a number", Code.turned("w 0; w 0; w 0").jobs(), 3);
        Check.same("w of a promise", Code.turned("p 0; v 1 2; R 0 1; w 0").jobs(), 1);
        Check.same("h", Code.turned("p 0; v 1 2; R 0 1; h 0 -1 1", "").jobs(), 1);
        Check.same("h with a function", Code.turned("p 0; v 1 2; R 0 1; h 0 1 1", "").jobs(), 1);
        Check.same("A", Code.turned("A 0 0 3").jobs(), 4);
        Check.same("R with a promise", Code.turned("p 0; v 1 2; R 0 1; p 1; R 1 0").jobs(), 2);
        Check.same("no job of a task, a call, a timer", Code.turned("c 0 1; t 3 1", "").jobs(), 0);
        Check.same("no job of a reaction that waits", Code.turned("p 0; h 0 -1 -1; w 0").jobs(), 0);
        EventloopRow row = Code.language("q 0 1", "");
        row.post(0);
        row.post(0);
        row.turn(1);
        Check.same("one turn", row.jobs(), 1);
        row.turn(1);
        Check.same("two turns", row.jobs(), 2);
    }

    /** Their number divided by that of all promises, both converted to float. */
    private static void sharesThatWait() {
        EventloopRow row = Code.language("p 0", "p 0; v 1 4; R 0 1", "p 0; v 1 4; X 0 1", "p 0; p 0");
        int waiting = 0;
        for (int all = 1; all <= 30; all++) {
            row.post(all % 3);
            row.turn(1);
            waiting += all % 3 == 0 ? 1 : 0;
            Check.number("share of " + all, row.waitingShare(), (float) waiting / (float) all);
        }
        Check.number("all", Code.turned("p 0; R 3 0").waitingShare(), 1);
        Check.number("none", Code.turned("c 0 1", "").waitingShare(), 0);
        Check.number("one that was resolved and waits",
                Code.turned("p 0; p 1; R 0 1; v 2 1; p 3; R 3 2").waitingShare(), 2f / 3f);
    }

    /** The number of all instructions that were carried out divided by that of turns, both converted to double. */
    private static void meansOfTurns() {
        EventloopRow row = Code.language("e", "e; e; T 0; e", "g 0 0 0; e", "z 0 2; e; e", "x 0; e", "w 0; w 0; e", "");
        int all = 0;
        int[] due = {1, 3, 1, 2, 1, 3, 0};
        for (int turn = 0; turn < 28; turn++) {
            row.post(turn % 7);
            row.turn(1);
            all += due[turn % 7];
            Check.number("turn " + turn, row.meanInstructions(), (double) all / (turn + 1));
        }
    }

    private static void soundAllTheTime() {
        EventloopRow row = Code.language("p 0; h 0 1 1; A 1 0 1; w 1", "e",
                "p 0; v 1 1; R 0 1; h 0 1 1; A 2 0 2; j 0 5", "j 0 0");
        Check.yes("new", row.isSound());
        row.addObject(-1);
        for (int key = 19; key >= 0; key--) {
            row.define(0, key, key, 7);
            Check.yes("defined", row.isSound());
        }
        for (int key = 0; key < 20; key += 3) {
            row.delete(0, key);
            Check.yes("deleted", row.isSound());
        }
        for (int function = 0; function < 4; function++) {
            row.post(function);
            Check.yes("a task waits", row.isSound());
            row.turn(1);
            Check.yes("behind a turn", row.isSound());
        }
    }
}
