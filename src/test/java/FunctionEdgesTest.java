/** The boundaries that the document names under 'Functions', 'Promises' and 'Calls and waiting'. */
public final class FunctionEdgesTest {
    public static void main(String[] args) {
        mostFunctions();
        mostInstructions();
        registersAtFirst();
        registersOfItsOwn();
        sumsBeyondTheInts();
        tracedNumbers();
        jumpsIfZero();
        jumpsToTheEdges();
        endsWithZero();
        handlersInTheirOrder();
        handlersThatAreTakenOff();
        handlersOfTheirRun();
        settingWhateverItIs();
        ninetyOne();
        ninety();
        missingFunctions();
        missingObjects();
        wrongKinds();
        rightKinds();
        ninetyFiveAheadOfNinetyTwo();
        runsWithinOneAnother();
        runsOneBehindAnother();
        runsThatGoOn();
        ninetySixAheadOfNinetyThree();
        mostPromises();
        noRoom();
        roomForAll();
        resolvedBefore();
        resolvedWithItself();
        resolvedWithAnother();
        rejectedBefore();
        orderOfReactions();
        reactionsAtOnce();
        reactionsWithFunctions();
        reactionsWithoutFunctions();
        calledFunctions();
        waitingForNumbers();
        waitingForPromises();
        endsOfRuns();
        allOfThem();
        allWithOneRejected();
        sumOfAll();
        Check.end();
    }

    /** A function text that puts a promise into r0 so many times, at most 16. */
    private static String newPromises(int count) {
        StringBuilder text = new StringBuilder();
        for (int i = 0; i < count; i++) {
            text.append("p 0;");
        }
        return text.toString();
    }

    /** A language whose functions 0, 1 and 2 make 16, 4 and 1 promises; so many promises have been made. */
    private static EventloopRow withPromises(int count, String... texts) {
        EventloopRow row = new EventloopRow();
        Code.function(row, newPromises(16));
        Code.function(row, newPromises(4));
        Code.function(row, newPromises(1));
        for (int i = 0; i < texts.length; i++) {
            row.addFunction();
        }
        for (int i = 0; i < texts.length; i++) {
            Code.fill(row, 3 + i, texts[i]);
        }
        int tasks = 0;
        for (int left = count; left > 0; tasks++) {
            int function = left >= 16 ? 0 : left >= 4 ? 1 : 2;
            row.post(function);
            left -= function == 0 ? 16 : function == 1 ? 4 : 1;
        }
        row.turn(10);
        Check.same("promises made ahead", row.promises(), count);
        return row;
    }

    private static void run(EventloopRow row, int function) {
        row.post(function);
        row.turn(1);
    }

    /** At most 8 functions are numbered from 0; a call that needs one that there is not throws 95. */
    private static void mostFunctions() {
        EventloopRow row = new EventloopRow();
        for (int i = 0; i < 8; i++) {
            Check.same("function", Code.function(row, "v 0 " + i + "; l 0"), i);
        }
        for (int i = 7; i >= 0; i--) {
            row.post(i);
        }
        row.turn(8);
        Code.traces("all 8 run", row, 7, 6, 5, 4, 3, 2, 1, 0);
    }

    /** Each with at most 16 instructions, numbered from 0. */
    private static void mostInstructions() {
        EventloopRow row = new EventloopRow();
        for (int function = 0; function < 8; function++) {
            row.addFunction();
            for (int place = 0; place < 8; place++) {
                Check.same("place", row.add(function, 'v', 0, 10 * function + place, 0), 2 * place);
                Check.same("place", row.add(function, 'l', 0, 0, 0), 2 * place + 1);
            }
            row.post(function);
        }
        row.turn(8);
        for (int i = 0; i < 64; i++) {
            Check.same("all 16 of each function", row.traceAt(i), 10 * (i / 8) + i % 8);
        }
        Check.same("all 16 of each function", row.traced(), 64);
        Check.number("all 16", row.meanInstructions(), 16);
    }

    /** Four registers of its own, 0 to 3, 0 at first. */
    private static void registersAtFirst() {
        String all = "l 0; l 1; l 2; l 3; v 0 5; v 1 6; v 2 7; v 3 8";
        Code.traces("of a call", Code.turned("v 0 9; v 1 9; v 2 9; v 3 9; c 0 1; c 0 1", all), 0, 0, 0, 0, 0, 0, 0, 0);
        Code.traces("of a job", Code.turned("v 0 9; v 1 9; v 2 9; v 3 9; q 0 1; q 0 1", all), 0, 0, 0, 0, 0, 0, 0, 0);
        EventloopRow row = Code.turned("v 0 9; v 1 9; v 2 9; v 3 9; t 0 1", all);
        row.post(1);
        row.turn(3);
        Code.traces("of a task and a timer", row, 0, 0, 0, 0, 0, 0, 0, 0);
        row = Code.turned("p 0; v 1 9; R 0 1; v 3 9; v 2 9; h 0 1 -1", all);
        Code.traces("of a reaction: what the promise has is in the register 0", row, 9, 0, 0, 0);
        row = Code.turned("p 0; v 1 9; X 0 1; v 3 9; v 2 9; h 0 -1 1", all);
        Code.traces("of a reaction to a rejection", row, 9, 0, 0, 0);
    }

    private static void registersOfItsOwn() {
        EventloopRow row = Code.turned("v 0 1; v 1 2; v 2 3; c 3 1; w 3; l 0; l 1; l 2; l 3",
                "v 0 11; v 1 12; v 2 13; v 3 14; w 1; l 0; l 1; l 2; l 3; x 3");
        Code.traces("the caller's and the called one's", row, 11, 12, 13, 14, 1, 2, 3, 14);
        Code.traces("each by its number", Code.turned("v 0 1; v 1 2; v 2 3; v 3 4; l 3; l 2; l 1; l 0"), 4, 3, 2, 1);
        Code.traces("the register 3 goes on", Code.turned("v 3 4; w 3; l 3; l 0"), 4, 0);
    }

    /** r(a) plus r(b), as ints. */
    private static void sumsBeyondTheInts() {
        EventloopRow row = Code.turned(Code.twoTo(30) + "v 1 -1; m 3 0; + 3 1; + 3 0; l 3; + 3 2; l 3; + 3 1; l 3");
        Code.traces("over the edge and back", row, Integer.MAX_VALUE, Integer.MIN_VALUE, Integer.MAX_VALUE);
        Code.traces("r(b) stays", Code.turned("v 0 9999; v 1 -9999; + 0 1; l 0; l 1; + 1 1; l 1"), 0, -9999, -19998);
    }

    /** A number as such, a promise as 10000 plus its number. */
    private static void tracedNumbers() {
        Code.traces("numbers", Code.turned("v 0 -9999; l 0; v 1 -1; + 0 1; l 0; v 0 9999; l 0; v 1 1; + 0 1; l 0; l 3"),
                -9999, -10000, 9999, 10000, 0);
        EventloopRow row = withPromises(59, "p 0; l 0; m 2 0; l 2");
        run(row, 3);
        Code.traces("the last promise", row, 10059, 10059);
        Code.traces("the first promise", Code.turned("p 3; l 3"), 10000);
    }

    /** Goes on at the instruction b if r(a) is the number 0, which no promise is. */
    private static void jumpsIfZero() {
        Code.traces("0", Code.turned("z 0 2; l 0; v 1 8; l 1"), 8);
        Code.traces("1", Code.turned("v 0 1; z 0 3; l 0"), 1);
        Code.traces("-1", Code.turned("v 0 -1; z 0 3; l 0"), -1);
        Code.traces("the promise 0", Code.turned("p 0; z 0 3; l 0"), 10000);
        Code.traces("an int that has become 0", Code.turned("v 0 5; v 1 -5; + 0 1; z 0 5; l 0; l 1"), -5);
        EventloopRow wrapped = Code.turned(Code.twoTo(32) + "z 0 9; l 2; l 0");
        Code.traces("2^32 is 0 as an int", wrapped, 0);
        Code.traces("to itself and out", Code.turned("v 0 1; z 0 1; z 3 16; l 0"));
    }

    /** An instruction, 0 to 16; behind the last instruction a function ends. */
    private static void jumpsToTheEdges() {
        String nop = "e; e; e; e; e; e; e; e; e; e; e; e; e;";
        Code.traces("j 15 is the last one", Code.turned("j 0 15; l 1;" + nop + "l 0"), 0);
        Code.traces("j 16 is behind it", Code.turned("v 0 7; j 0 16;" + nop + "l 0"));
        Code.traces("j to the length", Code.turned("j 0 2; l 0"));
        Code.traces("j to the last one", Code.turned("j 0 2; l 0; l 0"), 0);
        Code.traces("z 16", Code.turned("z 0 16;" + nop + "l 0; l 0"));
        EventloopRow row = Code.turned("z 1 2; j 0 4; v 1 1; j 0 0; l 1");
        Code.traces("j 0 is the first one", row, 1);
    }

    /** Behind the last instruction, a function ends with the number 0. */
    private static void endsWithZero() {
        for (String text : new String[] {"", "v 0 5", "v 0 5; j 0 9", "v 0 5; j 0 16", "z 1 16; T 1",
            "v 0 5; b 0 16; T 0", "v 0 5; b 0 3; T 0", "v 0 5; w 0"}) {
            EventloopRow row = Code.turned("c 0 1; w 0; l 0", text);
            Code.traces("behind '" + text + "'", row, 0);
            Check.sign("behind '" + text + "'", row.stateOf(0), 'f');
            Check.same("behind '" + text + "'", row.numberOf(0), 0);
        }
    }

    /** The latest handler is taken off the row, and the function goes on there, with what was thrown in r0. */
    private static void handlersInTheirOrder() {
        Code.traces("the latest one first",
                Code.turned("b 0 8; b 0 6; v 0 1; T 0; l 3; l 3; l 0; T 3; l 0; v 1 7; T 1"), 1, 0, 20007);
        Code.traces("one that throws itself", Code.turned("b 0 7; b 0 4; v 1 5; T 1; + 1 1; T 1; l 3; l 0"), 10);
        Code.traces("a handler at 0", Code.turned("z 1 2; j 0 5; v 1 4; b 0 0; T 1; l 0"), 4);
        Code.traces("the other registers stay",
                Code.turned("v 1 1; v 2 2; v 3 3; b 0 6; v 0 9; T 3; l 0; l 1; l 2; l 3"), 3, 1, 2, 3);
        Code.traces("a thrown 0", Code.turned("b 0 3; v 0 7; T 1; l 0"), 0);
        Code.traces("a row of 7", Code.turned("b 0 8; b 0 8; b 0 8; b 0 8; b 0 8; b 0 8; b 0 8; T 3; l 0; T 3"),
                0, 0, 0, 0, 0, 0, 0, 20000);
    }

    /** The latest handler is taken off the row, if there is one. */
    private static void handlersThatAreTakenOff() {
        Code.traces("none", Code.turned("e; v 0 1; T 0"), 20001);
        Code.traces("one", Code.turned("b 0 4; e; v 0 1; T 0; l 0"), 20001);
        Code.traces("one of two", Code.turned("b 0 6; b 0 5; e; v 0 1; T 0; l 3; l 0"), 1);
        Code.traces("more than there are", Code.turned("b 0 7; e; e; e; b 0 7; v 0 1; T 0; l 0"), 1);
    }

    /** Handlers are of their run: they go on when it has waited, and are none of the one it calls or that calls it. */
    private static void handlersOfTheirRun() {
        Code.traces("behind a wait", Code.turned("b 0 4; v 0 2; w 0; T 0; l 0"), 2);
        Code.traces("of the caller", Code.turned("b 0 4; c 1 1; l 3; w 1; l 0", "v 0 6; T 0"), 0, 6);
        Code.traces("of the called one", Code.turned("c 1 1; v 0 6; T 0; l 0", "b 0 3; w 0; l 0; l 3"), 20006, 0, 0);
        EventloopRow row = Code.turned("b 0 0; b 0 0", "v 0 6; T 0; l 0");
        run(row, 1);
        Code.traces("of an earlier run", row, 20006);
    }

    /** The key c of the object b is set to the number r(a), whatever it is. */
    private static void settingWhateverItIs() {
        for (int number : new int[] {9999, 10000, -9999, -10000}) {
            EventloopRow row = new EventloopRow();
            row.addObject(-1);
            int first = number < 0 ? -9999 : 9999;
            Code.function(row, "v 0 " + first + "; v 1 " + (number - first) + "; + 0 1; s 0 0 19; g 2 0 19; l 2");
            run(row, 0);
            Code.traces("set to " + number, row, number);
            Check.same("set to " + number, row.get(0, 19), number);
            Check.same("set to " + number, row.rights(0, 19), 7);
            Check.sign("set to a number that can be told", row.set(0, 19, 1), 'y');
        }
        EventloopRow row = new EventloopRow();
        row.addObject(-1);
        row.addProxy(0);
        row.addObject(1);
        row.addObject(0);
        Code.function(row, Code.twoTo(31) + "s 0 0 0; g 1 2 0; l 1; s 0 3 1; v 2 -1; + 1 2; s 1 1 0");
        run(row, 0);
        Code.traces("the least int", row, Integer.MIN_VALUE);
        Check.same("of an object with a chain", row.get(3, 1), Integer.MIN_VALUE);
        Check.same("the most int, by a proxy", row.get(0, 0), Integer.MAX_VALUE);
    }

    /** If this is no, 91 is thrown. */
    private static void ninetyOne() {
        for (int which = 0; which < 5; which++) {
            EventloopRow row = new EventloopRow();
            row.addObject(-1);
            row.addProxy(0);
            row.define(0, 4, 5, which == 1 ? 6 : 7);
            if (which == 2) {
                row.closeObject(0);
            }
            if (which >= 3) {
                row.tell(1, 's', which == 3 ? 0 : 1);
            }
            Code.function(row, "v 0 8; s 0 1 " + (which == 2 ? 5 : 4) + "; l 0");
            run(row, 0);
            Code.traces("91, " + which, row, which == 0 || which == 4 ? 8 : 20091);
            Check.same("91, " + which, row.get(0, 4), which == 0 ? 8 : 5);
        }
    }

    /** The fault 'T' throws 90. */
    private static void ninety() {
        EventloopRow row = new EventloopRow();
        row.addObject(-1);
        row.addProxy(0);
        row.addProxy(0);
        row.revoke(2);
        row.setChain(0, 1);
        row.define(0, 4, 5, 0);
        row.define(0, 6, 0, 1);
        Code.function(row, "b 0 2; g 0 2 4; l 0; b 0 5; s 3 2 4; l 0; b 0 8; g 0 0 5; l 0; b 0 11; s 3 0 5; l 0");
        Code.function(row, "b 0 2; g 0 1 4; l 0; b 0 5; g 0 1 6; l 0; b 0 8; s 3 1 6; l 0; b 0 11; s 3 1 4; l 0");
        run(row, 0);
        Code.traces("revoked, and in a round", row, 90, 90, 90, 90);
        row.tell(1, 'g', 6);
        row.tell(1, 's', 1);
        run(row, 1);
        Code.traces("answers that are denied", row, 90, 90, 90, 90, 90, 6, 6, 90);
    }

    /** An instruction that needs a function that there is not throws 95. */
    private static void missingFunctions() {
        for (int functions = 2; functions <= 8; functions++) {
            for (String text : new String[] {"c 1 #", "q 0 #", "t 1 #", "h 0 # -1", "h 0 -1 #", "h 0 # #", "h 0 0 #",
                "h 0 # 0"}) {
                for (int asked = functions - 1; asked <= functions && asked < 8; asked++) {
                    EventloopRow row = new EventloopRow();
                    for (int i = 0; i < functions; i++) {
                        row.addFunction();
                    }
                    Code.fill(row, 0, "p 0; " + text.replace("#", Integer.toString(asked)) + "; v 3 5; l 3");
                    run(row, 0);
                    Check.same("function " + asked + " of " + functions + ": " + text, row.traceAt(0),
                            asked < functions ? 5 : 20095);
                    Check.same("promises, jobs and timers", row.promises() + row.jobs() + row.timers(),
                            asked < functions ? 2 : 1);
                }
            }
        }
        Code.traces("-1 needs none", Code.turned("p 0; h 0 -1 -1; l 0"), 10001);
    }

    /** An instruction that needs an object that there is not throws 95. */
    private static void missingObjects() {
        for (int objects = 0; objects <= 12; objects++) {
            for (int asked = Math.max(0, objects - 1); asked <= objects && asked < 12; asked++) {
                EventloopRow row = new EventloopRow();
                for (int i = 0; i < objects; i++) {
                    row.addObject(-1);
                }
                Code.function(row, "b 0 3; v 0 5; g 0 " + asked + " 3; l 0; v 0 5; s 0 " + asked + " 3; l 0");
                run(row, 0);
                if (asked < objects) {
                    Code.traces("object " + asked + " of " + objects, row, 0, 5);
                    Check.same("object " + asked, row.get(asked, 3), 5);
                } else {
                    Code.traces("object " + asked + " of " + objects, row, 95, 20095);
                    row.addObject(-1);
                    run(row, 0);
                    Code.traces("it is added", row, 95, 20095, 0, 5);
                }
            }
        }
    }

    /** One that needs a number where there is a promise, or the other way round, 92. */
    private static void wrongKinds() {
        // r0 is a promise, r1 is 1, r2 is another promise.
        for (String wrong : new String[] {"+ 0 1", "+ 1 0", "+ 0 2", "+ 0 0", "T 0", "s 0 0 3", "R 1 1", "R 1 0",
            "X 1 1", "X 1 0", "X 0 2", "X 0 0", "h 1 -1 -1", "h 1 0 0", "h 3 -1 0", "t 0 0", "t 2 0"}) {
            EventloopRow row = new EventloopRow();
            row.addObject(-1);
            Code.function(row, "p 0; p 2; v 1 1; b 0 7; " + wrong + "; v 0 5; j 0 8; l 0; l 1; l 2");
            run(row, 0);
            Code.traces("92 of " + wrong, row, 92, 1, 10001);
            Check.same("nothing else is done by " + wrong, row.promises() + row.timers() + row.keys(0) + row.jobs(), 2);
            Check.same("nothing else is done by " + wrong, row.stateOf(0) + row.stateOf(1), 'w' + 'w');
        }
    }

    private static void rightKinds() {
        for (String right : new String[] {"+ 1 3", "s 1 0 3", "R 0 1", "R 0 2", "X 0 1", "h 0 -1 -1", "t 1 0", "l 0",
            "l 1", "m 1 0", "m 0 1", "z 0 9", "z 1 9", "w 1", "A 0 0 3", "A 1 0 0", "A 1 1 1", "c 0 1", "q 0 1",
            "g 0 0 3"}) {
            EventloopRow row = new EventloopRow();
            row.addObject(-1);
            row.addFunction();
            row.addFunction();
            Code.fill(row, 0, "p 0; p 2; v 1 1; b 0 8; " + right + "; v 3 5; l 3; j 0 9; l 0");
            run(row, 0);
            Check.same("no number is thrown by " + right, row.traceAt(right.charAt(0) == 'l' ? 1 : 0), 5);
        }
        Code.traces("x with a promise", Code.turned("c 0 1; p 1; w 0; l 1", "p 0; v 1 4; R 0 1; x 0"), 10002);
        Code.traces("T with a number", Code.turned("T 0"), 20000);
    }

    /** The first one of these, ahead of all else: 95 ahead of 92. */
    private static void ninetyFiveAheadOfNinetyTwo() {
        for (String wrong : new String[] {"s 0 0 3", "h 1 1 -1", "h 1 -1 1", "t 0 1"}) {
            Code.traces("95 ahead of 92: " + wrong, Code.turned("p 0; v 1 1; " + wrong), 20095);
        }
        EventloopRow row = new EventloopRow();
        row.addObject(-1);
        row.addProxy(0);
        row.revoke(1);
        row.closeObject(0);
        Code.function(row, "p 0; b 0 3; s 0 1 3; l 0; p 0; b 0 7; s 0 0 3; l 0");
        run(row, 0);
        Code.traces("92 ahead of 90 and 91", row, 92, 92);
    }

    /** A call when 30 runs are within one another already throws 96. */
    private static void runsWithinOneAnother() {
        // Each run counts itself in the object 0, and calls the next one as long as r0 is not 0.
        for (int runs = 28; runs <= 31; runs++) {
            EventloopRow row = new EventloopRow();
            row.addObject(-1);
            row.set(0, 0, runs);
            Code.function(row, "g 0 0 0; v 1 -1; + 0 1; s 0 0 0; z 0 8; b 0 8; c 2 0; j 0 10; l 0; l 3");
            run(row, 0);
            if (runs <= 30) {
                Code.traces(runs + " runs", row, 0, 0);
            } else {
                Code.traces(runs + " runs", row, 96, 0);
            }
            Check.same(runs + " runs", row.promises(), Math.min(runs, 30) - 1);
        }
        EventloopRow row = Code.turned("b 0 2; c 1 0; l 0; l 1");
        Check.same("96 is thrown in the 30th run", row.traceAt(0), 96);
        Check.same("which made no promise", row.traceAt(1), 0);
        Check.same("nor went it on", row.promises(), 29);
    }

    /** Runs that have ended, and those that wait, are not within one another. */
    private static void runsOneBehindAnother() {
        EventloopRow row = Code.turned("v 0 -40; v 1 1; c 2 1; + 0 1; z 0 6; j 0 2; l 1", "e");
        Code.traces("40 calls that end", row, 1);
        row = Code.turned("v 0 -40; v 1 1; c 2 1; + 0 1; z 0 6; j 0 2; l 1", "w 0");
        Code.traces("40 calls that wait", row, 1);
        row = Code.turned("v 0 -40; v 1 1; b 0 8; c 2 1; + 0 1; z 0 7; j 0 2; l 1; j 0 4", "T 0");
        Check.same("40 calls that throw", row.traceAt(0), 1);
    }

    /** A run that has waited goes on in a job, within no other one. */
    private static void runsThatGoOn() {
        EventloopRow row = Code.turned("c 0 1", "w 3; c 0 2", "b 0 2; c 0 2; l 0");
        Check.same("96 in the 30th one", row.traceAt(0), 96);
        Check.same("one, and 29 that the one that waited has called", row.promises(), 30);
        row = Code.turned("c 0 1", "b 0 2; c 0 1; w 3; l 0; l 0");
        Check.same("all that wait within one another", row.promises(), 29);
        Code.traces("all that wait within one another", row, traceOfWaits());
    }

    /** The 30th run has thrown 96, and goes on first; the others hold the promise of the one they called. */
    private static int[] traceOfWaits() {
        int[] due = new int[58];
        for (int i = 0; i < due.length; i++) {
            due[i] = i < 2 ? 96 : 10000 + 29 - i / 2;
        }
        return due;
    }

    /** The first one of these: 95 ahead of 96; and 93 behind 95, 92 and 96. */
    private static void ninetySixAheadOfNinetyThree() {
        for (int before = 29; before <= 33; before++) {
            EventloopRow row = withPromises(before, "b 0 2; c 1 3; l 0; j 0 9");
            run(row, 3);
            Check.same("behind " + before + " promises", row.traceAt(0), before <= 31 ? 96 : 93);
            Check.same("behind " + before + " promises", row.promises(), Math.min(60, before + 29));
        }
        EventloopRow row = withPromises(31, "b 0 2; c 1 3; l 0; b 0 5; c 1 7; l 0; j 0 9");
        run(row, 3);
        Check.same("96", row.traceAt(0), 96);
        Check.same("95 ahead of 96 and of 93", row.traceAt(1), 95);
        row = withPromises(60, "b 0 2; h 1 -1 -1; l 0; b 0 5; h 1 7 7; l 0; b 0 8; c 1 7; l 0; b 0 11; c 1 3; l 0");
        run(row, 3);
        Code.traces("92 and 95 ahead of 93", row, 92, 95, 95, 93);
    }

    /** At most 60 are numbered from 0; an instruction that needs more new ones than there can be throws 93. */
    private static void mostPromises() {
        for (String text : new String[] {"p 1", "c 1 4", "h 0 -1 -1", "A 1 0 0"}) {
            for (int before = 58; before <= 59; before++) {
                // The function 3 makes one promise itself.
                EventloopRow row = withPromises(before, "p 0; b 0 3; " + text + "; l 0; l 1", "e");
                run(row, 3);
                String what = text + " behind " + before;
                Check.same(what + ": promises", row.promises(), 60);
                int first = before == 59 ? 93 : text.charAt(0) == 'h' ? 10059 : 10058;
                int second = before == 59 || text.charAt(0) == 'h' ? 0 : 10059;
                Code.traces(what, row, first, second);
            }
        }
        EventloopRow row = withPromises(60);
        Check.sign("the last one", row.stateOf(59), 'w');
    }

    /** Ahead of all else that it does: the register keeps what it holds, no reaction is put, no function is run. */
    private static void noRoom() {
        EventloopRow row = withPromises(59, "p 0; m 1 0; v 2 7; b 0 5; h 0 4 4; l 0; l 1; X 1 2; v 3 5", "l 0");
        run(row, 3);
        Code.traces("no reaction is put", row, 93, 10059, 30059);
        row = withPromises(60, "v 1 6; b 0 3; c 1 4; l 1; b 0 6; p 1; l 1; b 0 9; A 1 0 0; l 1", "l 0");
        run(row, 3);
        Code.traces("no function is run", row, 6, 6, 6);
        row = withPromises(59, "v 1 6; p 2; m 3 2; b 0 5; A 0 1 3; l 0; l 1; l 2; X 3 1");
        run(row, 3);
        Code.traces("A puts no reactions", row, 93, 6, 10059, 30059);
        row = withPromises(60, "c 0 4");
        run(row, 3);
        Code.traces("without a handler", row, 20095);
    }

    /** 'A' needs one for all, and one for each number. */
    private static void roomForAll() {
        String[] kinds = {"p 0; p 1; p 2; p 3;", "p 0; p 1; p 2;", "p 0; p 1;", "p 0;", ""};
        for (int numbers = 0; numbers <= 4; numbers++) {
            for (int room = numbers; room <= numbers + 2; room++) {
                EventloopRow row = withPromises(60 - room - (4 - numbers), kinds[numbers] + "A 0 0 3; l 0");
                run(row, 3);
                String what = numbers + " numbers with room for " + room;
                Code.traces(what, row, room > numbers ? 10060 - room : 20093);
                Check.same(what, row.promises(), room > numbers ? 60 - room + numbers + 1 : 60 - room);
            }
        }
    }

    /** To resolve a promise that was resolved or rejected before: nothing. */
    private static void resolvedBefore() {
        for (String second : new String[] {"R 0 2", "R 0 0", "R 0 3", "X 0 2"}) {
            EventloopRow row = Code.turned("p 0; p 3; v 1 5; v 2 6; R 0 1; " + second + "; w 0; l 0");
            Code.traces("fulfilled before " + second, row, 5);
            Check.same("fulfilled before " + second, row.jobs(), 1);
            row = Code.turned("p 0; p 3; v 1 5; v 2 6; X 0 1; " + second + "; b 0 8; w 0; l 0");
            Code.traces("rejected before " + second, row, 5);
            Check.same("rejected before " + second, row.jobs(), 1);
            row = Code.turned("p 0; p 3; v 1 5; v 2 6; R 0 3; " + second + "; R 3 1; w 0; l 0");
            Code.traces("resolved with another one before " + second, row, 5);
            Check.same("resolved with another one before " + second, row.jobs(), 3);
        }
    }

    /** With itself, it is rejected with 94. */
    private static void resolvedWithItself() {
        EventloopRow row = Code.turned("p 0; p 1; R 0 0; R 1 0");
        Check.sign("with itself", row.stateOf(0), 'r');
        Check.same("with itself", row.numberOf(0), 94);
        Check.same("with another one", row.numberOf(1), 94);
        Code.traces("with itself", row, 30001);
        // r0 is the promise of a reaction that ends with it.
        row = Code.turned("p 0; v 1 1; R 0 1; h 0 -1 -1; m 2 0; R 2 0; w 0; l 0");
        Code.traces("the promise of a reaction", row, 20094);
    }

    /** With another promise, a job puts reactions on that one, by which this one is fulfilled or rejected alike. */
    private static void resolvedWithAnother() {
        for (char letter : new char[] {'R', 'X'}) {
            char due = letter == 'R' ? 'f' : 'r';
            EventloopRow row = Code.turned("p 0; p 1; v 2 6; " + letter + " 1 2; R 0 1; l 0");
            Check.sign("settled before " + letter, row.stateOf(0), due);
            Check.same("settled before " + letter, row.numberOf(0), 6);
            Check.same("two jobs", row.jobs(), 2);
            Check.same("handled, but itself not", row.unhandled(), letter == 'X' ? 1 : 0);
            row = Code.turned("p 0; p 1; v 2 6; R 0 1; " + letter + " 1 2");
            Check.sign("settled behind it " + letter, row.stateOf(0), due);
            Check.same("settled behind it " + letter, row.jobs(), 2);
            row = Code.turned("p 0; p 1; v 2 6; R 0 1; w 2; w 2; " + letter + " 1 2");
            Check.sign("settled when the reactions are there " + letter, row.stateOf(0), due);
            Check.same("settled when the reactions are there " + letter, row.jobs(), 4);
        }
        EventloopRow row = Code.turned("p 0; p 1; R 0 1");
        Check.sign("it waits", row.stateOf(0), 'w');
        Check.same("the job that puts reactions", row.jobs(), 1);
        row = Code.turned("p 0; p 1; R 0 1; R 1 0");
        Check.same("each the other one", row.stateOf(0) + row.stateOf(1), 'w' + 'w');
        Check.yes("each the other one", row.isSound());
        // 0 follows 1, which follows 2, which follows 3.
        row = Code.turned("p 0; p 1; p 2; p 3; R 0 1; R 1 2; R 2 3; v 1 8; R 3 1; w 0; l 0");
        Code.traces("one behind another", row, 8);
        // Three to put, one to wait; then one for each step.
        Check.same("one behind another", row.jobs(), 3 + 3 + 1);
    }

    /** To reject one that was resolved or rejected before: nothing. */
    private static void rejectedBefore() {
        Code.traces("rejected twice", Code.turned("p 0; v 1 5; v 2 6; X 0 1; X 0 2; w 0"), 20005);
        Code.traces("told once", Code.turned("p 0; v 1 5; X 0 1; X 0 1"), 30000);
        Code.traces("fulfilled", Code.turned("p 0; v 1 5; R 0 1; X 0 1; w 0; l 0"), 5);
        EventloopRow row = Code.turned("p 0; p 1; v 2 5; R 0 1; X 0 2");
        Check.sign("resolved with another one", row.stateOf(0), 'w');
        Code.traces("resolved with another one", row);
    }

    /** For each of its reactions, in their order, a job is added. */
    private static void orderOfReactions() {
        String[] functions = {"", "v 1 1; l 1; l 0", "v 1 2; l 1; l 0", "v 1 3; l 1; l 0"};
        for (char letter : new char[] {'R', 'X'}) {
            functions[0] = "p 0; m 1 0; m 2 0; m 3 0; h 1 1 3; h 2 2 2; h 3 3 1; v 1 7; " + letter + " 0 1; l 1";
            EventloopRow row = Code.turned(functions);
            if (letter == 'R') {
                Code.traces("fulfilled", row, 7, 1, 7, 2, 7, 3, 7);
            } else {
                Code.traces("rejected", row, 7, 3, 7, 2, 7, 1, 7);
            }
            Check.same("a job each", row.jobs(), 3);
        }
    }

    /** A reaction that is put on one that is fulfilled or rejected already has its job added at once. */
    private static void reactionsAtOnce() {
        EventloopRow row = Code.turned("p 0; v 1 7; R 0 1; q 0 2; m 2 0; h 2 1 -1; q 0 2; m 2 0; h 2 1 -1; l 1",
                "v 1 1; l 1", "v 1 2; l 1");
        Code.traces("fulfilled", row, 7, 2, 1, 2, 1);
        row = Code.turned("p 0; v 1 7; X 0 1; q 0 2; m 2 0; h 2 2 1; q 0 2; l 1", "v 1 1; l 1", "v 1 2; l 1");
        Code.traces("rejected", row, 7, 2, 1, 2);
    }

    /** It runs with what the promise has in r0; by its end the new promise is resolved or rejected. */
    private static void reactionsWithFunctions() {
        EventloopRow row = Code.turned("p 0; v 1 7; R 0 1; h 0 1 2; w 0; l 0", "l 0; + 0 0; x 0", "v 0 1; x 0");
        Code.traces("fulfilled, ends with", row, 7, 14);
        row = Code.turned("p 0; v 1 7; X 0 1; h 0 2 1; w 0; l 0", "l 0; + 0 0; x 0", "v 0 1; x 0");
        Code.traces("rejected, ends with", row, 7, 14);
        Check.sign("rejected, ends with", row.stateOf(1), 'f');
        row = Code.turned("p 0; v 1 7; R 0 1; h 0 1 2; w 0; l 0", "l 0; + 0 0; T 0", "v 0 1; x 0");
        Code.traces("fulfilled, ends by", row, 7, 20014);
        row = Code.turned("p 0; v 1 7; X 0 1; h 0 2 1; w 0; l 0", "l 0; + 0 0; T 0", "v 0 1; x 0");
        Code.traces("rejected, ends by", row, 7, 20014);
        row = Code.turned("p 0; v 1 7; R 0 1; h 0 1 2; w 0; l 0", "p 1; R 1 0; x 1", "");
        Code.traces("ends with a promise", row, 7);
        // put: reaction; the end with a promise: adopt and alike; the one that waits.
        Check.same("ends with a promise", row.jobs(), 4);
        row = Code.turned("p 0; v 1 7; R 0 1; h 0 1 2; w 0; l 0", "w 0; w 0; + 0 0; x 0", "");
        Code.traces("it waits and ends with", row, 14);
        row = Code.turned("p 0; v 1 7; R 0 1; h 0 1 2; w 0; l 0", "w 0; w 0; + 0 0; T 0", "");
        Code.traces("it waits and ends by", row, 20014);
    }

    /** Without a function, the new promise is fulfilled or rejected alike. */
    private static void reactionsWithoutFunctions() {
        for (String none : new String[] {"h 0 -1 -1", "h 0 -1 1"}) {
            EventloopRow row = Code.turned("p 0; v 1 7; R 0 1; " + none + "; w 0; l 0", "l 3; l 3");
            Code.traces("fulfilled, " + none, row, 7);
            Check.same("fulfilled, " + none, row.jobs(), 2);
        }
        for (String none : new String[] {"h 0 -1 -1", "h 0 1 -1"}) {
            EventloopRow row = Code.turned("p 0; v 1 7; X 0 1; " + none, "l 3; l 3");
            Code.traces("rejected, " + none, row, 30001);
            Check.same("rejected, " + none, row.numberOf(1), 7);
            Check.same("rejected, " + none, row.jobs(), 1);
        }
    }

    /** Runs at once, up to its end, or until it waits; then the one that called goes on. */
    private static void calledFunctions() {
        EventloopRow row = Code.turned("q 0 2; v 0 1; l 0; c 1 1; l 1; v 0 4; l 0", "v 0 2; l 0; w 0; v 0 6; l 0; x 0",
                "v 0 5; l 0");
        Code.traces("until it waits", row, 1, 2, 10000, 4, 5, 6);
        Check.same("its promise", row.numberOf(0), 6);
        row = Code.turned("c 1 1; l 1; v 0 4; l 0", "c 1 2; v 0 3; l 0; x 0", "v 0 2; l 0; x 0");
        Code.traces("up to its end", row, 2, 3, 10000, 4);
        Check.same("resolved with what it ends with", row.numberOf(0), 3);
        Check.same("resolved with what it ends with", row.numberOf(1), 2);
        row = Code.turned("c 1 1; c 2 2; w 1; l 1", "p 0; x 0", "T 0");
        Check.sign("it ends with a promise", row.stateOf(0), 'w');
        Code.traces("it ends by a number", row, 30002);
    }

    /** When a function waits for a number, a job is added by which it goes on with this in the register. */
    private static void waitingForNumbers() {
        EventloopRow row = Code.turned("q 0 1; v 0 6; v 2 9; w 2; l 2; l 0", "v 0 1; l 0");
        Code.traces("behind the jobs that are there", row, 1, 9, 6);
        Check.same("a job", row.jobs(), 2);
        Code.traces("for 0", Code.turned("w 0; l 0"), 0);
    }

    /** Goes on with its number in the register, or with its number thrown, without a new promise. */
    private static void waitingForPromises() {
        EventloopRow row = Code.turned("p 2; c 1 1; v 0 6; R 2 0; q 0 1; l 3; w 2; l 2; l 0", "v 0 1; l 0");
        Code.traces("fulfilled before", row, 1, 0, 1, 6, 6);
        Check.same("no new promise", row.promises(), 2);
        row = Code.turned("p 2; v 0 6; X 2 0; b 0 5; w 2; l 0; l 2; w 3; l 2");
        Code.traces("rejected: the register keeps the promise", row, 6, 10000, 10000);
        Check.same("it is handled", row.unhandled(), 0);
        row = Code.turned("p 2; h 2 1 -1; w 2; l 2", "");
        Code.traces("never", row);
        Check.same("no job", row.jobs(), 0);
        row = Code.turned("c 2 1; v 0 6; w 2; l 2; l 0", "w 0; v 3 5; w 3; x 3");
        Code.traces("fulfilled behind it", row, 5, 6);
    }

    /** What they end by is told in the trace as 20000 plus the number, and what they end with is lost. */
    private static void endsOfRuns() {
        EventloopRow row = Code.turned("v 0 9; x 0", "v 0 -9999; T 0", "q 0 1; q 0 0; t 3 1; t 3 0");
        run(row, 1);
        run(row, 2);
        row.turn(10);
        Code.traces("of a task, a job and a timer", row, 10001, 10001, 10001);
        row = Code.turned("v 0 -1; w 0; T 0");
        Code.traces("behind a wait", row, 19999);
        row = Code.turned("p 0; x 0");
        Check.sign("a promise it ends with is lost", row.stateOf(0), 'w');
        row = Code.turned("c 0 1; w 0; T 3", "v 0 4; T 0");
        Code.traces("with the number of the one it waits for", row, 20004);
        row = Code.turned(Code.twoTo(30) + "v 1 -1; + 1 0; + 0 1; T 0");
        Code.traces("20000 plus the number, as ints", row, 20000 + Integer.MAX_VALUE);
    }

    /** A promise as it is, and a number as a new promise; behind the last one it is fulfilled with the sum. */
    private static void allOfThem() {
        for (int last = 0; last < 4; last++) {
            EventloopRow row = Code.turned("v 0 1; v 1 2; v 2 4; v 3 8; A 3 0 " + last + "; l 3; w 3; l 3");
            Code.traces("numbers to " + last, row, 10000, (2 << last) - 1);
            Check.same("numbers to " + last, row.promises(), last + 2);
            Check.same("a job for each, and for the wait", row.jobs(), last + 2);
            row = Code.turned("v 0 1; v 1 2; v 2 4; v 3 8; A 0 " + last + " 3; w 0; l 0");
            Code.traces("numbers from " + last, row, 16 - (1 << last));
        }
        EventloopRow row = Code.turned("p 0; p 2; v 1 5; A 3 0 2; l 3; v 1 7; R 2 1; l 1; R 0 1; w 3; l 3");
        Code.traces("promises too", row, 10002, 7, 19);
        Check.same("the promise for all, then that of the number", row.numberOf(3), 5);
        row = Code.turned("v 1 3; A 1 0 1; l 1; l 0; w 1; l 1");
        Code.traces("as it was ahead of this", row, 10000, 0, 3);
        row = Code.turned("p 0; m 1 0; A 2 0 1; v 3 4; R 0 3; w 2; l 2");
        Code.traces("the same one twice", row, 8);
        row = Code.turned("p 0; p 1; A 2 0 1; v 3 4; R 0 3; w 3; w 3; l 2");
        Check.sign("the last one is missing", row.stateOf(2), 'w');
    }

    /** If it is rejected, the promise for all is rejected alike. */
    private static void allWithOneRejected() {
        EventloopRow row = Code.turned("p 0; p 1; v 2 3; X 1 2; A 3 0 2; w 3");
        Code.traces("one of three", row, 20003);
        Check.sign("though one waits", row.stateOf(0), 'w');
        row = Code.turned("p 0; p 1; v 2 3; A 3 0 1; X 1 2; v 2 4; X 0 2; w 3");
        Code.traces("the first one that is rejected", row, 20003);
        row = Code.turned("p 0; p 1; v 2 3; A 3 0 1; X 0 2; R 1 2; w 3; l 0");
        Code.traces("the last one is fulfilled", row, 20003);
        row = Code.turned("p 0; v 2 3; A 3 0 0; X 0 2");
        Code.traces("the part is handled, the whole is not", row, 30001);
    }

    private static void sumOfAll() {
        EventloopRow row = Code.turned(Code.twoTo(31) + "v 1 -1; A 3 0 1; w 3; l 3");
        Code.traces("the sum is an int", row, Integer.MAX_VALUE);
    }
}
