/** The calls that README.md shows; behind each line that prints stands what it prints. */
public final class Example {
    public static void main(String[] arguments) {
        EventloopRow row = new EventloopRow();

        // Objects: a plain one, another one whose chain it is, and a proxy of that one.
        int below = row.addObject(-1);
        int above = row.addObject(below);
        int proxy = row.addProxy(above);
        System.out.println(row.define(below, 12, 42, 7));       // y
        System.out.println(row.get(proxy, 12));                 // 42
        System.out.println(row.set(proxy, 12, 43));             // y
        System.out.println(row.get(above, 12));                 // 43
        System.out.println(row.get(below, 12));                 // 42
        System.out.println(row.set(above, 3, 5));               // y
        System.out.println(row.keys(above));                    // 2
        System.out.println(row.keyAt(above, 0));                // 3
        System.out.println(row.rights(above, 12));              // 7
        System.out.println(row.delete(above, 3));               // y
        System.out.println(row.closeObject(above));             // y
        System.out.println(row.set(above, 3, 5));               // n
        System.out.println(row.setChain(above, -1));            // n

        // A told answer is the fault T where it breaks what the target has promised; so is all with a revoked proxy.
        System.out.println(row.tell(proxy, 'h', 0));            // false
        System.out.println(row.has(proxy, 5));                  // n
        System.out.println(row.has(proxy, 12));                 // T
        System.out.println(row.revoke(proxy));                  // false
        System.out.println(row.has(proxy, 5));                  // T

        // Functions: one ends with what an object gives, one throws, one calls both and sets a timer.
        int gives = row.addFunction();
        int fails = row.addFunction();
        int calls = row.addFunction();
        row.add(gives, 'g', 0, below, 12);  // r0 becomes what the key 12 of the object gives
        row.add(gives, 'x', 0, 0, 0);       // ends with r0
        row.add(fails, 'v', 0, 7, 0);       // r0 becomes 7
        row.add(fails, 'T', 0, 0, 0);       // throws r0
        row.add(calls, 'c', 1, gives, 0);   // r1 becomes the promise 0, of the function that is called
        row.add(calls, 'w', 1, 0, 0);       // waits for it: a job goes on with its number in r1
        row.add(calls, 'l', 1, 0, 0);       // r1 is traced
        row.add(calls, 'c', 2, fails, 0);   // r2 becomes the promise 1, whose rejection nobody handles
        row.add(calls, 'v', 3, 5, 0);       // r3 becomes 5
        row.add(calls, 't', 3, fails, 0);   // when 5 units of time have passed, a timer runs the function
        System.out.println(row.post(calls));                    // 1
        System.out.println(row.turn(1));                        // 1
        System.out.println(row.timers());                       // 1
        System.out.println(row.turn(10));                       // 1

        // What has been: 30000 plus a promise that was not handled, 20000 plus what a timer ended by.
        System.out.println(row.time());                         // 5
        System.out.println(row.timers());                       // 0
        System.out.println(row.traced());                       // 3
        System.out.println(row.traceAt(0));                     // 42
        System.out.println(row.traceAt(1));                     // 30001
        System.out.println(row.traceAt(2));                     // 20007
        System.out.println(row.promises());                     // 2
        System.out.println(row.stateOf(0));                     // f
        System.out.println(row.stateOf(1));                     // r
        System.out.println(row.numberOf(1));                    // 7
        System.out.println(row.unhandled());                    // 1
        System.out.println(row.late());                         // 0
        System.out.println(row.jobs());                         // 1
        System.out.println(row.waitingShare());                 // 0.0
        System.out.println(row.meanInstructions());             // 6.0
        System.out.println(row.isSound());                      // true

        // A call that is refused throws what the document names, and changes nothing.
        try {
            row.get(proxy, 12);
        } catch (UnsupportedOperationException refused) {
            System.out.println("it is the fault T");            // it is the fault T
        }
        try {
            row.add(calls, 'e', 0, 0, 0);
        } catch (IllegalStateException refused) {
            System.out.println("a turn was done");              // a turn was done
        }
    }
}
