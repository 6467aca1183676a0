/** Languages that the tests of refused calls start from; each takes fewer than 100 calls. */
final class Languages {
    private Languages() {
    }

    /**
     * Objects: 0 plain; 1 plain with the chain 0, closed; 2 a proxy of 1 with answers for 'g' and 'd'; 3 a proxy of 2;
     * 4 a revoked proxy of 0; 5 plain with the chain 3. Three functions, and two tasks that wait.
     */
    static EventloopRow mixed() {
        EventloopRow row = new EventloopRow();
        row.addObject(-1);
        row.addObject(0);
        row.addProxy(1);
        row.addProxy(2);
        row.addProxy(0);
        row.addObject(3);
        row.define(0, 3, 33, 7);
        row.define(0, 12, -12, 2);
        row.define(0, 10, 10, 5);
        row.define(1, 3, 34, 4);
        row.define(1, 0, 9999, 0);
        row.define(5, 19, -9999, 7);
        row.closeObject(1);
        row.tell(2, 'g', 7);
        row.tell(2, 'd', 0);
        row.revoke(4);
        Code.function(row, "p 0; p 1; v 2 5; X 0 2; R 1 2; p 3; v 2 40; t 2 1; c 2 1; l 2");
        Code.function(row, "v 0 -3; l 0; w 0; x 0");
        Code.function(row, "v 0 6; T 0");
        row.post(0);
        row.post(2);
        return row;
    }

    /** The mixed one behind a turn: promises in each state, a trace, a task and a timer that wait. */
    static EventloopRow turned() {
        EventloopRow row = mixed();
        row.turn(1);
        return row;
    }

    /** The mixed one with 12 objects, 8 functions, and 16 instructions in the function 3. */
    static EventloopRow full() {
        EventloopRow row = mixed();
        for (int object = 6; object < 12; object++) {
            if (object % 2 == 0) {
                row.addObject(object - 1);
            } else {
                row.addProxy(object - 1);
            }
        }
        for (int function = 3; function < 8; function++) {
            row.addFunction();
        }
        for (int place = 0; place < 16; place++) {
            row.add(3, 'e', 0, 0, 0);
        }
        return row;
    }

    /** The mixed one with 30 tasks that were added; none of them waits. */
    static EventloopRow posted() {
        EventloopRow row = mixed();
        for (int task = 2; task < 30; task++) {
            row.post(2);
        }
        for (int i = 0; i < 3; i++) {
            row.turn(10);
        }
        return row;
    }
}
