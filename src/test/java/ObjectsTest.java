import java.util.NoSuchElementException;

/** Promises 1 to 15: objects, what is done with them, and proxies. */
public final class ObjectsTest {
    private static final Class<IndexOutOfBoundsException> INDEX = IndexOutOfBoundsException.class;
    private static final Class<IllegalArgumentException> ARGUMENT = IllegalArgumentException.class;
    private static final Class<IllegalStateException> STATE = IllegalStateException.class;
    private static final Class<UnsupportedOperationException> FAULT = UnsupportedOperationException.class;
    private static final Class<NoSuchElementException> ELEMENT = NoSuchElementException.class;

    public static void main(String[] args) {
        newObject();
        addObject();
        addProxy();
        tell();
        revoke();
        define();
        defineUnconfigured();
        set();
        setReceivers();
        get();
        has();
        delete();
        closeObject();
        setChain();
        keys();
        keyAt();
        rights();
        answersOfGetting();
        answersOfAsking();
        answersOfSetting();
        answersOfDeleting();
        answersThroughProxies();
        cycles();
        Check.end();
    }

    private static void newObject() {
        EventloopRow row = new EventloopRow();
        Check.fails("1: keys(0)", INDEX, () -> row.keys(0));
        Check.fails("1: post(0)", INDEX, () -> row.post(0));
        Check.same("1: time", row.time(), 0);
        Check.same("1: timers", row.timers(), 0);
        Check.same("1: traced", row.traced(), 0);
        Check.same("1: promises", row.promises(), 0);
        Check.same("1: unhandled", row.unhandled(), 0);
        Check.same("1: late", row.late(), 0);
        Check.same("1: jobs", row.jobs(), 0);
        Check.same("1: turn", row.turn(10), 0);
        Check.yes("1: isSound", row.isSound());
    }

    private static void addObject() {
        EventloopRow row = new EventloopRow();
        Check.fails("2: addObject(0)", INDEX, () -> row.addObject(0));
        Check.fails("2: addObject(-2)", INDEX, () -> row.addObject(-2));
        Check.same("2: first", row.addObject(-1), 0);
        row.define(0, 4, 44, 7);
        Check.same("2: second", row.addObject(0), 1);
        Check.same("2: chain", row.get(1, 4), 44);
        Check.same("2: without properties", row.keys(1), 0);
        Check.sign("2: open", row.define(1, 5, 1, 0), 'y');
        Check.fails("2: addObject(2)", INDEX, () -> row.addObject(2));
        for (int i = 2; i < 12; i++) {
            Check.same("2: object " + i, row.addObject(i - 1), i);
        }
        Check.same("2: through 12 objects", row.get(11, 4), 44);
        Check.fails("2: a 13th", STATE, () -> row.addObject(-1));
        Check.fails("2: a 13th of none", INDEX, () -> row.addObject(12));
        Check.fails("2: a 13th proxy", STATE, () -> row.addProxy(11));
        Check.fails("2: a 13th proxy of none", INDEX, () -> row.addProxy(12));
    }

    private static void addProxy() {
        EventloopRow row = new EventloopRow();
        Check.fails("3: addProxy(0)", INDEX, () -> row.addProxy(0));
        Check.fails("3: addProxy(-1)", INDEX, () -> row.addProxy(-1));
        row.addObject(-1);
        row.define(0, 10, 7, 5);
        Check.same("3: proxy", row.addProxy(0), 1);
        Check.same("3: proxy of a proxy", row.addProxy(1), 2);
        Check.same("3: get", row.get(2, 10), 7);
        Check.sign("3: has", row.has(2, 10), 'y');
        Check.sign("3: has not", row.has(2, 11), 'n');
        Check.same("3: keys", row.keys(2), 1);
        Check.same("3: keyAt", row.keyAt(2, 0), 10);
        Check.same("3: rights", row.rights(2, 10), 5);
        Check.sign("3: set", row.set(2, 10, 8), 'y');
        Check.same("3: set the target", row.get(0, 10), 8);
        Check.same("3: with its rights", row.rights(0, 10), 5);
        Check.sign("3: define", row.define(2, 3, 1, 6), 'y');
        Check.same("3: defined", row.rights(0, 3), 6);
        Check.sign("3: delete", row.delete(2, 3), 'y');
        Check.sign("3: deleted", row.has(0, 3), 'n');
        Check.sign("3: close", row.closeObject(2), 'y');
        Check.sign("3: closed", row.define(0, 3, 1, 7), 'n');
    }

    private static void tell() {
        EventloopRow row = new EventloopRow();
        row.addObject(-1);
        row.addProxy(0);
        Check.fails("4: none", INDEX, () -> row.tell(2, '?', 5));
        Check.fails("4: -1", INDEX, () -> row.tell(-1, 'g', 5));
        Check.fails("4: letter, plain", ARGUMENT, () -> row.tell(0, 'x', 1));
        Check.fails("4: letter", ARGUMENT, () -> row.tell(1, 'G', 1));
        Check.fails("4: plain", STATE, () -> row.tell(0, 'g', 1));
        Check.fails("4: g 10000", ARGUMENT, () -> row.tell(1, 'g', 10000));
        Check.fails("4: g -10000", ARGUMENT, () -> row.tell(1, 'g', -10000));
        for (char what : new char[] {'h', 's', 'd'}) {
            Check.fails("4: 2", ARGUMENT, () -> row.tell(1, what, 2));
            Check.fails("4: -1", ARGUMENT, () -> row.tell(1, what, -1));
            Check.no("4: first " + what, row.tell(1, what, 0));
            Check.yes("4: second " + what, row.tell(1, what, 1));
            Check.yes("4: third " + what, row.tell(1, what, 1));
        }
        Check.no("4: least", row.tell(1, 'g', -9999));
        Check.same("4: told", row.get(1, 0), -9999);
        Check.yes("4: most", row.tell(1, 'g', 9999));
        Check.same("4: told in place", row.get(1, 0), 9999);
        Check.yes("4: 0", row.tell(1, 'g', 0));
        Check.yes("4: 0 was told", row.tell(1, 'g', 0));
        Check.sign("4: asking", row.has(1, 0), 'y');
        Check.sign("4: setting", row.set(1, 0, 5), 'y');
        Check.sign("4: deleting", row.delete(1, 0), 'y');
        Check.same("4: nothing is changed", row.keys(0), 0);
        row.revoke(1);
        Check.yes("4: revoked", row.tell(1, 'g', 3));
    }

    private static void revoke() {
        EventloopRow row = new EventloopRow();
        row.addObject(-1);
        row.addProxy(0);
        row.addProxy(1);
        row.define(0, 1, 2, 7);
        Check.fails("5: none", INDEX, () -> row.revoke(3));
        Check.fails("5: plain", STATE, () -> row.revoke(0));
        Check.no("5: first", row.revoke(1));
        Check.yes("5: again", row.revoke(1));
        for (int i = 1; i <= 2; i++) {
            int object = i;
            Check.fails("5: get", FAULT, () -> row.get(object, 1));
            Check.sign("5: has", row.has(object, 1), 'T');
            Check.sign("5: set", row.set(object, 1, 1), 'T');
            Check.sign("5: delete", row.delete(object, 1), 'T');
            Check.sign("5: define", row.define(object, 1, 1, 7), 'T');
            Check.sign("5: close", row.closeObject(object), 'T');
            Check.sign("5: setChain", row.setChain(object, -1), 'T');
            Check.fails("5: keys", FAULT, () -> row.keys(object));
            Check.fails("5: keyAt", FAULT, () -> row.keyAt(object, 9));
            Check.fails("5: rights", FAULT, () -> row.rights(object, 9));
        }
        Check.no("5: the one in front", row.revoke(2));
        Check.same("5: the target", row.get(0, 1), 2);
        Check.sign("5: the target is open", row.define(0, 2, 2, 7), 'y');
    }

    private static void define() {
        EventloopRow row = new EventloopRow();
        row.addObject(-1);
        Check.fails("6: object", INDEX, () -> row.define(1, 0, 99999, 9));
        Check.fails("6: key 20", INDEX, () -> row.define(0, 20, 99999, 9));
        Check.fails("6: key -1", INDEX, () -> row.define(0, -1, 0, 0));
        Check.fails("6: value", ARGUMENT, () -> row.define(0, 0, 10000, 0));
        Check.fails("6: value", ARGUMENT, () -> row.define(0, 0, -10000, 0));
        Check.fails("6: rights 8", ARGUMENT, () -> row.define(0, 0, 0, 8));
        Check.fails("6: rights -1", ARGUMENT, () -> row.define(0, 0, 0, -1));
        Check.same("6: nothing was added", row.keys(0), 0);
        Check.sign("6: key 0", row.define(0, 0, -9999, 4), 'y');
        Check.sign("6: key 19", row.define(0, 19, 9999, 0), 'y');
        Check.same("6: value", row.get(0, 0), -9999);
        Check.same("6: value", row.get(0, 19), 9999);
        Check.sign("6: configured", row.define(0, 0, 3, 1), 'y');
        Check.same("6: its value", row.get(0, 0), 3);
        Check.same("6: its rights", row.rights(0, 0), 1);
        row.closeObject(0);
        Check.sign("6: closed", row.define(0, 1, 1, 7), 'n');
        Check.sign("6: closed, there", row.define(0, 0, 4, 1), 'y');
    }

    private static void defineUnconfigured() {
        for (int own = 0; own < 4; own++) {
            for (int rights = 0; rights < 8; rights++) {
                for (int value = 5; value <= 6; value++) {
                    EventloopRow row = new EventloopRow();
                    row.addObject(-1);
                    row.define(0, 3, 5, own);
                    boolean can = rights < 4 && (rights & 2) == (own & 2)
                            && ((own & 1) == 1 || (rights & 1) == 0 && value == 5);
                    String what = "6: " + own + " to " + rights + " with " + value;
                    Check.sign(what, row.define(0, 3, value, rights), can ? 'y' : 'n');
                    Check.same(what, row.get(0, 3), can ? value : 5);
                    Check.same(what, row.rights(0, 3), can ? rights : own);
                }
            }
        }
    }

    private static void set() {
        EventloopRow row = new EventloopRow();
        row.addObject(-1);
        Check.fails("7: object", INDEX, () -> row.set(1, 0, 10000));
        Check.fails("7: key", INDEX, () -> row.set(0, 20, 10000));
        Check.fails("7: value", ARGUMENT, () -> row.set(0, 0, 10000));
        Check.fails("7: value", ARGUMENT, () -> row.set(0, 0, -10000));
        Check.sign("7: added", row.set(0, 0, -9999), 'y');
        Check.same("7: rights", row.rights(0, 0), 7);
        row.define(0, 0, 1, 1);
        Check.sign("7: written", row.set(0, 0, 9999), 'y');
        Check.same("7: value", row.get(0, 0), 9999);
        Check.same("7: keeps its rights", row.rights(0, 0), 1);
        row.define(0, 1, 5, 6);
        Check.sign("7: cannot be written", row.set(0, 1, 5), 'n');
        row.closeObject(0);
        Check.sign("7: closed", row.set(0, 2, 5), 'n');
        Check.sign("7: closed, there", row.set(0, 0, 5), 'y');
        Check.same("7: no more", row.keys(0), 2);
    }

    private static void setReceivers() {
        EventloopRow row = new EventloopRow();
        row.addObject(-1);
        row.addObject(0);
        row.addProxy(1);
        row.addObject(2);
        row.define(0, 1, 10, 6);
        row.define(0, 2, 20, 3);
        Check.sign("7: not to be written in the chain", row.set(3, 1, 1), 'n');
        Check.sign("7: to be written in the chain", row.set(3, 2, 1), 'y');
        Check.same("7: the one that receives", row.rights(3, 2), 7);
        Check.same("7: the chain keeps", row.get(1, 2), 20);
        Check.sign("7: a proxy receives", row.set(2, 2, 4), 'y');
        Check.same("7: its target has it", row.rights(1, 2), 7);
        Check.same("7: the chain keeps", row.get(0, 2), 20);
        row.define(1, 5, 1, 0);
        Check.sign("7: a proxy that cannot", row.set(2, 5, 1), 'n');
        row.closeObject(1);
        Check.sign("7: a proxy of a closed one", row.set(2, 6, 1), 'n');
        Check.sign("7: its chain is not asked to be open", row.set(3, 6, 1), 'y');
        row.revoke(2);
        Check.sign("7: through a revoked one", row.set(3, 7, 1), 'T');
        Check.sign("7: not so far", row.set(3, 6, 2), 'y');
    }

    private static void get() {
        EventloopRow row = new EventloopRow();
        row.addObject(-1);
        row.addObject(0);
        Check.fails("8: object", INDEX, () -> row.get(2, 0));
        Check.fails("8: object", INDEX, () -> row.get(-1, 0));
        Check.fails("8: key", INDEX, () -> row.get(0, 20));
        Check.fails("8: key", INDEX, () -> row.get(0, -1));
        Check.same("8: the end of the chain", row.get(1, 3), 0);
        row.define(0, 3, 33, 0);
        Check.same("8: the chain", row.get(1, 3), 33);
        row.define(1, 3, 34, 0);
        Check.same("8: its own", row.get(1, 3), 34);
        row.addProxy(0);
        row.revoke(2);
        Check.fails("8: key of a revoked one", INDEX, () -> row.get(2, 20));
        Check.fails("8: revoked", FAULT, () -> row.get(2, 3));
    }

    private static void has() {
        EventloopRow row = new EventloopRow();
        row.addObject(-1);
        row.addObject(0);
        Check.fails("9: object", INDEX, () -> row.has(2, 0));
        Check.fails("9: key", INDEX, () -> row.has(0, 20));
        row.define(0, 3, 0, 0);
        Check.sign("9: its own", row.has(0, 3), 'y');
        Check.sign("9: the chain's", row.has(1, 3), 'y');
        Check.sign("9: none", row.has(1, 4), 'n');
    }

    private static void delete() {
        EventloopRow row = new EventloopRow();
        row.addObject(-1);
        row.addObject(0);
        Check.fails("10: object", INDEX, () -> row.delete(2, 0));
        Check.fails("10: key", INDEX, () -> row.delete(0, -1));
        row.define(0, 3, 1, 4);
        row.define(0, 4, 1, 3);
        Check.sign("10: none", row.delete(1, 3), 'y');
        Check.sign("10: the chain keeps", row.has(0, 3), 'y');
        row.closeObject(0);
        Check.sign("10: of a closed one", row.delete(0, 3), 'y');
        Check.sign("10: deleted already", row.delete(0, 3), 'y');
        Check.sign("10: closed, so it stays away", row.set(0, 3, 1), 'n');
        Check.sign("10: deleted", row.has(0, 3), 'n');
        Check.sign("10: not configured", row.delete(0, 4), 'n');
        Check.sign("10: still there", row.has(0, 4), 'y');
        Check.same("10: listed", row.keys(0), 1);
        for (int key : new int[] {0, 9, 10, 19}) {
            row.set(1, key, 5);
            row.delete(1, key);
            Check.sign("10: the edges of the keys", row.has(1, key), 'n');
        }
    }

    private static void closeObject() {
        EventloopRow row = new EventloopRow();
        row.addObject(-1);
        Check.fails("11: object", INDEX, () -> row.closeObject(1));
        Check.fails("11: object", INDEX, () -> row.closeObject(-1));
        Check.sign("11: open", row.closeObject(0), 'y');
        Check.sign("11: closed", row.closeObject(0), 'y');
        Check.sign("11: define", row.define(0, 0, 0, 7), 'n');
    }

    private static void setChain() {
        EventloopRow row = new EventloopRow();
        for (int i = 0; i < 3; i++) {
            row.addObject(i - 1);
        }
        row.addProxy(2);
        Check.fails("12: object", INDEX, () -> row.setChain(4, 0));
        Check.fails("12: object", INDEX, () -> row.setChain(-1, 0));
        Check.fails("12: chain", INDEX, () -> row.setChain(0, 4));
        Check.fails("12: chain", INDEX, () -> row.setChain(0, -2));
        Check.sign("12: none again", row.setChain(0, -1), 'y');
        Check.sign("12: itself", row.setChain(0, 0), 'n');
        Check.sign("12: it is met", row.setChain(0, 2), 'n');
        Check.sign("12: the same", row.setChain(2, 1), 'y');
        Check.sign("12: another", row.setChain(2, 0), 'y');
        Check.sign("12: another", row.setChain(0, 1), 'n');
        Check.sign("12: none", row.setChain(2, -1), 'y');
        row.define(2, 9, 9, 7);
        Check.sign("12: now it can", row.setChain(0, 2), 'y');
        Check.same("12: the new chain", row.get(1, 9), 9);
        Check.sign("12: a proxy's target", row.setChain(3, 1), 'n');
        Check.sign("12: its own proxy", row.setChain(3, 3), 'y');
        row.closeObject(1);
        Check.sign("12: closed, the same", row.setChain(1, 0), 'y');
        Check.sign("12: closed", row.setChain(1, -1), 'n');
        row.revoke(3);
        Check.fails("12: object of a revoked one", INDEX, () -> row.setChain(3, 4));
        Check.sign("12: revoked", row.setChain(3, 3), 'T');
        Check.sign("12: a chain that is revoked", row.setChain(0, 3), 'y');
        Check.sign("12: so it is", row.has(0, 1), 'T');
    }

    private static void keys() {
        EventloopRow row = new EventloopRow();
        row.addObject(-1);
        row.addObject(0);
        Check.fails("13: object", INDEX, () -> row.keys(2));
        Check.same("13: none", row.keys(0), 0);
        for (int key = 0; key < 20; key++) {
            row.define(0, key, 0, key % 8);
            Check.same("13: keys", row.keys(0), key + 1);
        }
        row.define(0, 3, 0, 0);
        Check.same("13: again", row.keys(0), 20);
        Check.same("13: not the chain's", row.keys(1), 0);
    }

    private static void keyAt() {
        EventloopRow row = new EventloopRow();
        row.addObject(-1);
        Check.fails("14: object", INDEX, () -> row.keyAt(1, -1));
        Check.fails("14: index", ELEMENT, () -> row.keyAt(0, 0));
        Check.fails("14: index", ELEMENT, () -> row.keyAt(0, -1));
        for (int key : new int[] {19, 9, 10, 0, 12, 5, 11, 4}) {
            row.define(0, key, 0, 7);
        }
        order("14: order", row, 0, 4, 5, 9, 19, 10, 12, 11);
        row.delete(0, 10);
        row.delete(0, 5);
        order("14: deleted", row, 0, 4, 9, 19, 12, 11);
        row.set(0, 5, 1);
        row.set(0, 10, 1);
        row.set(0, 19, 1);
        order("14: added again", row, 0, 4, 5, 9, 19, 12, 11, 10);
        Check.fails("14: index", ELEMENT, () -> row.keyAt(0, 8));
        Check.yes("14: isSound", row.isSound());
    }

    private static void order(String what, EventloopRow row, int... due) {
        Check.same(what, row.keys(0), due.length);
        for (int i = 0; i < due.length; i++) {
            Check.same(what, row.keyAt(0, i), due[i]);
        }
    }

    private static void rights() {
        EventloopRow row = new EventloopRow();
        row.addObject(-1);
        row.addObject(0);
        Check.fails("15: object", INDEX, () -> row.rights(2, 0));
        Check.fails("15: key", INDEX, () -> row.rights(0, 20));
        Check.fails("15: none", ELEMENT, () -> row.rights(0, 0));
        for (int rights = 0; rights < 8; rights++) {
            row.define(0, rights, 0, rights);
            Check.same("15: rights", row.rights(0, rights), rights);
        }
        Check.fails("15: the chain's", ELEMENT, () -> row.rights(1, 0));
    }

    /** A plain object 0 with the keys 0 to 7, which have the value 5 and each its number as rights; a proxy 1. */
    private static EventloopRow guarded() {
        EventloopRow row = new EventloopRow();
        row.addObject(-1);
        row.addProxy(0);
        for (int rights = 0; rights < 8; rights++) {
            row.define(0, rights, 5, rights);
        }
        return row;
    }

    private static void answersOfGetting() {
        EventloopRow row = guarded();
        row.tell(1, 'g', 6);
        for (int rights = 0; rights < 8; rights++) {
            int key = rights;
            if ((rights & 5) == 0) {
                Check.fails("8: kept " + rights, FAULT, () -> row.get(1, key));
            } else {
                Check.same("8: not kept " + rights, row.get(1, key), 6);
            }
        }
        Check.same("8: none", row.get(1, 8), 6);
        row.tell(1, 'g', 5);
        Check.same("8: the same value", row.get(1, 0), 5);
        row.closeObject(0);
        Check.same("8: closed, none", row.get(1, 8), 5);
        row.addObject(1);
        Check.same("8: as a chain", row.get(2, 8), 5);
        Check.sign("8: asking goes on", row.has(2, 8), 'n');
    }

    private static void answersOfAsking() {
        EventloopRow row = guarded();
        row.tell(1, 'h', 0);
        for (int rights = 0; rights < 8; rights++) {
            Check.sign("9: no " + rights, row.has(1, rights), rights >= 4 ? 'n' : 'T');
        }
        Check.sign("9: no, none", row.has(1, 8), 'n');
        row.closeObject(0);
        Check.sign("9: no, closed", row.has(1, 7), 'T');
        Check.sign("9: no, closed, none", row.has(1, 8), 'n');
        row.tell(1, 'h', 1);
        Check.sign("9: yes", row.has(1, 0), 'y');
        Check.sign("9: yes, none", row.has(1, 8), 'y');
    }

    private static void answersOfSetting() {
        EventloopRow row = guarded();
        row.tell(1, 's', 1);
        for (int rights = 0; rights < 8; rights++) {
            Check.sign("7: yes " + rights, row.set(1, rights, 6), (rights & 5) == 0 ? 'T' : 'y');
            Check.sign("7: yes, the value " + rights, row.set(1, rights, 5), 'y');
            Check.same("7: nothing is changed", row.get(0, rights), 5);
        }
        Check.sign("7: yes, none", row.set(1, 8, 6), 'y');
        Check.sign("7: nothing is added", row.has(0, 8), 'n');
        row.addObject(1);
        Check.sign("7: yes as a chain", row.set(2, 0, 6), 'T');
        Check.sign("7: yes as a chain", row.set(2, 1, 6), 'y');
        Check.same("7: nothing is added", row.keys(2), 0);
        row.tell(1, 's', 0);
        Check.sign("7: no", row.set(1, 7, 6), 'n');
        Check.sign("7: no", row.set(1, 0, 6), 'n');
    }

    private static void answersOfDeleting() {
        EventloopRow row = guarded();
        row.tell(1, 'd', 1);
        for (int rights = 0; rights < 8; rights++) {
            Check.sign("10: yes " + rights, row.delete(1, rights), rights < 4 ? 'T' : 'y');
        }
        Check.same("10: nothing is changed", row.keys(0), 8);
        Check.sign("10: yes, none", row.delete(1, 8), 'y');
        row.closeObject(0);
        Check.sign("10: yes, closed", row.delete(1, 7), 'T');
        Check.sign("10: yes, closed, none", row.delete(1, 8), 'y');
        row.tell(1, 'd', 0);
        Check.sign("10: no", row.delete(1, 7), 'n');
        Check.sign("10: no, none", row.delete(1, 8), 'n');
    }

    private static void answersThroughProxies() {
        EventloopRow row = guarded();
        row.addProxy(1);
        row.tell(1, 'g', 5);
        row.tell(2, 'g', 6);
        Check.fails("3: the property behind", FAULT, () -> row.get(2, 0));
        Check.same("3: the answer in front", row.get(2, 7), 6);
        row.tell(1, 's', 0);
        Check.sign("3: the answer behind", row.set(2, 7, 1), 'n');
        row.tell(2, 'd', 1);
        Check.sign("3: what the plain one keeps", row.delete(2, 0), 'T');
        row.tell(2, 'h', 1);
        row.tell(2, 's', 0);
        row.revoke(1);
        Check.fails("3: the target is revoked", FAULT, () -> row.get(2, 7));
        Check.sign("3: the target is revoked", row.has(2, 7), 'T');
        Check.sign("3: the target is revoked", row.set(2, 7, 1), 'T');
        Check.sign("3: the target is revoked", row.delete(2, 8), 'T');
    }

    private static void cycles() {
        EventloopRow row = new EventloopRow();
        row.addObject(-1);
        row.addObject(0);
        row.addProxy(1);
        row.setChain(0, 2);
        row.define(1, 1, 5, 7);
        for (int object = 0; object < 3; object++) {
            int asked = object;
            Check.same("8: in the round", row.get(object, 1), 5);
            Check.fails("8: a 31st object", FAULT, () -> row.get(asked, 2));
            Check.sign("9: in the round", row.has(object, 1), 'y');
            Check.sign("9: a 31st object", row.has(object, 2), 'T');
            Check.sign("7: a 31st object", row.set(object, 2, 1), 'T');
            Check.sign("10: no round", row.delete(object, 2), 'y');
        }
        row.tell(2, 'g', 8);
        Check.same("8: an answer ends it", row.get(1, 2), 8);
        EventloopRow whole = new EventloopRow();
        whole.addObject(-1);
        for (int i = 1; i < 12; i++) {
            whole.addProxy(i - 1);
        }
        whole.set(11, 19, 3);
        Check.same("8: eleven proxies", whole.get(11, 19), 3);
        Check.sign("12: eleven proxies", whole.setChain(11, 11), 'y');
        Check.fails("8: eleven proxies in the round", FAULT, () -> whole.get(11, 18));
    }
}
