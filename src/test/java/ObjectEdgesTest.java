/** The boundaries that the document names under 'Objects', 'What is done with an object' and 'Proxies'. */
public final class ObjectEdgesTest {
    private static final Class<IllegalStateException> STATE = IllegalStateException.class;
    private static final Class<UnsupportedOperationException> FAULT = UnsupportedOperationException.class;
    private static final int NONE = -1;
    private static final int KEY = 4;
    private static final int VALUE = 5;

    public static void main(String[] args) {
        mostCalls();
        mostObjects();
        orderOfKeys();
        orderOfAllKeys();
        deletedAndAddedAgain();
        changedInItsPlace();
        listedWithoutTheRight();
        closedObjects();
        definedWhereThereIsNone();
        definedWhereThereIsOne();
        gettingAlongChains();
        askingAlongChains();
        settingOnce();
        settingThroughAProxy();
        deleting();
        rounds();
        roundsThatEnd();
        noRounds();
        settingInARound();
        theSameChain();
        chainsOfClosedObjects();
        chainsThatMeetTheObject();
        chainsBehindProxies();
        answersOneByOne();
        withoutAnAnswer();
        revoked();
        revokedBehindAnAnswer();
        toldAnswers();
        toldThroughProxies();
        toldInAChain();
        Check.end();
    }

    /** Objects 0 to count - 1, each with the one before it as its chain. */
    private static EventloopRow chained(int count) {
        EventloopRow row = new EventloopRow();
        for (int object = 0; object < count; object++) {
            row.addObject(object - 1);
        }
        return row;
    }

    private static void lists(String what, EventloopRow row, int object, int... due) {
        Check.same(what + ": keys", row.keys(object), due.length);
        for (int i = 0; i < due.length; i++) {
            Check.same(what + ": keyAt(" + i + ")", row.keyAt(object, i), due[i]);
        }
        Check.yes(what + ": isSound", row.isSound());
    }

    /** An object is used for at most 512 calls: so the 512th one still answers. */
    private static void mostCalls() {
        EventloopRow row = chained(2);
        for (int call = 3; call < 512; call++) {
            row.set(1, call % 20, call);
        }
        Check.same("the 512th call", row.get(1, 11), 511);
    }

    /** At most 12 objects are numbered from 0: plain ones and proxies. */
    private static void mostObjects() {
        EventloopRow plain = new EventloopRow();
        EventloopRow mixed = new EventloopRow();
        for (int object = 0; object < 12; object++) {
            Check.same("plain object", plain.addObject(NONE), object);
            Check.same("plain object or proxy", object % 2 == 0 ? mixed.addObject(object - 1)
                    : mixed.addProxy(object - 1), object);
        }
        Check.fails("a 13th, plain", STATE, () -> plain.addObject(NONE));
        Check.fails("a 13th, a proxy", STATE, () -> plain.addProxy(0));
        Check.fails("a 13th, plain", STATE, () -> mixed.addObject(NONE));
        Check.fails("a 13th, a proxy", STATE, () -> mixed.addProxy(0));
        Check.sign("the 12th is used", plain.define(11, 0, 1, 7), 'y');
        Check.sign("the 12th is used", mixed.define(11, 0, 1, 7), 'y');
        Check.same("it is a proxy of the 11th", mixed.keys(10), 1);
    }

    /** Its keys are in this order: those from 0 to 9, rising, then the others in the order in which they were added. */
    private static void orderOfKeys() {
        EventloopRow row = chained(3);
        for (int key : new int[] {10, 9}) {
            row.define(0, key, 1, 7);
        }
        lists("9 is ahead of 10", row, 0, 9, 10);
        for (int key : new int[] {19, 8, 0, 11}) {
            row.set(0, key, 1);
        }
        lists("9 is the last one that rises", row, 0, 0, 8, 9, 10, 19, 11);
        for (int key : new int[] {11, 10}) {
            row.define(1, key, 1, 7);
        }
        lists("10 is the first one that does not rise", row, 1, 11, 10);
        for (int key : new int[] {9, 0}) {
            row.define(2, key, 1, 7);
        }
        lists("0 is the first one", row, 2, 0, 9);
    }

    private static void orderOfAllKeys() {
        EventloopRow row = chained(2);
        for (int key = 19; key >= 0; key--) {
            row.define(0, key, key, 7);
            row.define(1, 19 - key, key, 7);
        }
        lists("all, falling", row, 0, 0, 1, 2, 3, 4, 5, 6, 7, 8, 9, 19, 18, 17, 16, 15, 14, 13, 12, 11, 10);
        lists("all, rising", row, 1, 0, 1, 2, 3, 4, 5, 6, 7, 8, 9, 10, 11, 12, 13, 14, 15, 16, 17, 18, 19);
        for (int key = 0; key < 20; key++) {
            Check.same("value", row.get(0, key), key);
            Check.sign("deleted", row.delete(0, key), 'y');
        }
        lists("none is left", row, 0);
    }

    /** A property that was deleted and added again is added last. */
    private static void deletedAndAddedAgain() {
        EventloopRow row = chained(1);
        for (int key : new int[] {12, 11, 10, 5, 4}) {
            row.define(0, key, 1, 7);
        }
        row.delete(0, 12);
        row.define(0, 12, 1, 7);
        lists("the first one again", row, 0, 4, 5, 11, 10, 12);
        row.delete(0, 10);
        row.set(0, 10, 1);
        lists("one in the middle again", row, 0, 4, 5, 11, 12, 10);
        row.delete(0, 10);
        row.set(0, 10, 1);
        lists("the last one again", row, 0, 4, 5, 11, 12, 10);
        row.delete(0, 4);
        lists("a small one is deleted", row, 0, 5, 11, 12, 10);
        row.set(0, 4, 1);
        lists("a small one rises again", row, 0, 4, 5, 11, 12, 10);
    }

    private static void changedInItsPlace() {
        EventloopRow row = chained(1);
        for (int key : new int[] {12, 11, 10}) {
            row.define(0, key, 1, 7);
        }
        row.define(0, 12, 2, 3);
        row.set(0, 11, 3);
        lists("what is there keeps its place", row, 0, 12, 11, 10);
        Check.sign("one that stays", row.delete(0, 12), 'n');
        lists("one that is not deleted keeps its place", row, 0, 12, 11, 10);
    }

    /** To list its keys: all of them, those without the right to be listed too. */
    private static void listedWithoutTheRight() {
        EventloopRow row = chained(1);
        for (int rights = 0; rights < 8; rights++) {
            row.define(0, rights, 1, rights);
            Check.same("listed with " + rights, row.keyAt(0, rights), rights);
        }
        Check.same("all of them", row.keys(0), 8);
    }

    /** It is closed, by which no property can be added. */
    private static void closedObjects() {
        EventloopRow row = chained(1);
        row.define(0, 1, 1, 7);
        row.define(0, 2, 1, 3);
        Check.sign("open", row.define(0, 3, 1, 7), 'y');
        Check.sign("closed", row.closeObject(0), 'y');
        Check.sign("defined, not there", row.define(0, 4, 1, 7), 'n');
        Check.sign("set, not there", row.set(0, 4, 1), 'n');
        Check.sign("none was added", row.has(0, 4), 'n');
        Check.sign("defined, there", row.define(0, 1, 2, 5), 'y');
        Check.same("defined, there", row.rights(0, 1), 5);
        Check.sign("set, there", row.set(0, 2, 9), 'y');
        Check.same("set, there", row.get(0, 2), 9);
        Check.sign("deleted", row.delete(0, 3), 'y');
        Check.sign("deleted, not there again", row.define(0, 3, 1, 7), 'n');
        Check.sign("closed again", row.closeObject(0), 'y');
        lists("what is left", row, 0, 1, 2);
    }

    /** If it is not there, it is added, and yes, if the object is open, otherwise no. */
    private static void definedWhereThereIsNone() {
        for (int rights = 0; rights < 8; rights++) {
            EventloopRow row = chained(2);
            row.define(0, KEY, VALUE, 0);
            Check.sign("open, with " + rights, row.define(1, KEY, 6, rights), 'y');
            Check.same("open, with " + rights, row.rights(1, KEY), rights);
            Check.same("open, with " + rights, row.get(1, KEY), 6);
            Check.same("its chain keeps its own", row.get(0, KEY), VALUE);
            row.closeObject(1);
            Check.sign("closed, with " + rights, row.define(1, KEY + 1, 6, rights), 'n');
        }
    }

    /** Whether a property with these rights and the value 5 gets others, by the document's words. */
    private static boolean canGet(int own, int rights, int value) {
        if ((own & 4) != 0) {
            return true;
        }
        if ((rights & 4) != 0 || (rights & 2) != (own & 2) || (rights & 1) != 0 && (own & 1) == 0) {
            return false;
        }
        return (own & 1) != 0 || value == VALUE;
    }

    /** If it is there: each of the rights that it has, with each that is told, with its value and another one. */
    private static void definedWhereThereIsOne() {
        for (int own = 0; own < 8; own++) {
            for (int rights = 0; rights < 8; rights++) {
                for (int which = 0; which < 8; which++) {
                    int value = (which & 1) == 0 ? VALUE : VALUE + 1;
                    int asked = (which & 2) == 0 ? 0 : 1;
                    EventloopRow row = new EventloopRow();
                    row.addObject(NONE);
                    row.addProxy(0);
                    row.define(0, KEY, VALUE, own);
                    if ((which & 4) != 0) {
                        row.closeObject(0);
                    }
                    boolean can = canGet(own, rights, value);
                    String what = "from " + own + " to " + rights + ", " + which;
                    Check.sign(what, row.define(asked, KEY, value, rights), can ? 'y' : 'n');
                    Check.same(what + ": rights", row.rights(0, KEY), can ? rights : own);
                    Check.same(what + ": value", row.get(0, KEY), can ? value : VALUE);
                }
            }
        }
    }

    /** Its value if there is a property; otherwise what the chain gives, and 0 at the end of the chain. */
    private static void gettingAlongChains() {
        EventloopRow row = chained(12);
        Check.same("the end of the longest chain", row.get(11, KEY), 0);
        row.define(0, KEY, VALUE, 0);
        Check.same("the end itself", row.get(0, KEY), VALUE);
        Check.same("from the far end of the longest chain", row.get(11, KEY), VALUE);
        row.define(6, KEY, 0, 0);
        Check.same("a 0 that is there", row.get(11, KEY), 0);
        Check.same("below it", row.get(5, KEY), VALUE);
        row.define(11, KEY, -1, 0);
        Check.same("its own first", row.get(11, KEY), -1);
        Check.same("the next one", row.get(10, KEY), 0);
    }

    private static void askingAlongChains() {
        EventloopRow row = chained(12);
        Check.sign("the end of the longest chain", row.has(11, KEY), 'n');
        row.define(1, KEY, 0, 0);
        Check.sign("from the far end of the longest chain", row.has(11, KEY), 'y');
        Check.sign("its own", row.has(1, KEY), 'y');
        Check.sign("below it", row.has(0, KEY), 'n');
    }

    private static EventloopRow setter(int own, int chain, boolean closed) {
        EventloopRow row = new EventloopRow();
        row.addObject(NONE);
        row.addObject(0);
        row.addProxy(1);
        if (own != NONE) {
            row.define(1, KEY, VALUE, own);
        }
        if (chain != NONE) {
            row.define(0, KEY, VALUE + 10, chain);
        }
        if (closed) {
            row.closeObject(1);
        }
        return row;
    }

    /** To set a key: with and without a property of its own and of its chain, of each rights, open and closed. */
    private static void settingOnce() {
        for (int own = NONE; own < 8; own++) {
            for (int chain = NONE; chain < 8; chain++) {
                for (int which = 0; which < 4; which++) {
                    boolean closed = (which & 1) != 0;
                    EventloopRow row = setter(own, chain, closed);
                    boolean can = own != NONE ? (own & 1) != 0 : !closed && (chain == NONE || (chain & 1) != 0);
                    String what = "set " + own + " before " + chain + ", " + which;
                    Check.sign(what, row.set((which & 2) == 0 ? 1 : 2, KEY, 8), can ? 'y' : 'n');
                    Check.same(what + ": keys", row.keys(1), own != NONE || can ? 1 : 0);
                    if (can) {
                        Check.same(what + ": value", row.get(1, KEY), 8);
                        Check.same(what + ": rights", row.rights(1, KEY), own != NONE ? own : 7);
                    } else if (own != NONE) {
                        Check.same(what + ": value", row.get(1, KEY), VALUE);
                        Check.same(what + ": rights", row.rights(1, KEY), own);
                    }
                    Check.same(what + ": the chain's", row.get(0, KEY), chain != NONE ? VALUE + 10 : 0);
                }
            }
        }
    }

    /** Without an answer, the same is done with the target, with the same one that receives. */
    private static void settingThroughAProxy() {
        for (int rights = NONE; rights < 8; rights++) {
            EventloopRow row = new EventloopRow();
            row.addObject(NONE);
            row.addProxy(0);
            row.addObject(1);
            if (rights != NONE) {
                row.define(0, KEY, VALUE, rights);
            }
            boolean can = rights == NONE || (rights & 1) != 0;
            String what = "set through a proxy of " + rights;
            Check.sign(what, row.set(2, KEY, 8), can ? 'y' : 'n');
            Check.same(what + ": the one that receives", row.keys(2), can ? 1 : 0);
            Check.same(what + ": the target", row.get(0, KEY), rights == NONE ? 0 : VALUE);
            Check.same(what + ": the target", row.keys(0), rights == NONE ? 0 : 1);
        }
    }

    /** Yes if there is no such property, no if it cannot be configured; otherwise it is deleted, yes. */
    private static void deleting() {
        for (int rights = NONE; rights < 8; rights++) {
            for (int which = 0; which < 4; which++) {
                EventloopRow row = setter(rights, 7, (which & 1) != 0);
                boolean can = rights == NONE || (rights & 4) != 0;
                String what = "delete " + rights + ", " + which;
                Check.sign(what, row.delete((which & 2) == 0 ? 1 : 2, KEY), can ? 'y' : 'n');
                Check.same(what + ": keys", row.keys(1), can ? 0 : 1);
                Check.same(what + ": what is seen", row.get(1, KEY), can ? VALUE + 10 : VALUE);
            }
        }
    }

    /** A round of so many objects: plain ones, and the last one a proxy, which is the chain of the first one. */
    private static EventloopRow round(int count) {
        EventloopRow row = chained(count - 1);
        row.addProxy(count - 2);
        Check.sign("a round of " + count, row.setChain(0, count - 1), 'y');
        return row;
    }

    /** So it does if getting, asking or setting would go on through a 31st object. */
    private static void rounds() {
        for (int count = 2; count <= 12; count++) {
            EventloopRow row = round(count);
            for (int object = 0; object < count; object++) {
                int asked = object;
                String what = "object " + object + " in a round of " + count;
                Check.fails(what, FAULT, () -> row.get(asked, KEY));
                Check.sign(what, row.has(object, KEY), 'T');
                Check.sign(what, row.set(object, KEY, 1), 'T');
                Check.same(what + ": nothing is added", row.keys(object), 0);
            }
        }
    }

    /** A round that has the key, and one that was opened again. */
    private static void roundsThatEnd() {
        for (int count = 2; count <= 12; count++) {
            for (int holder = 0; holder < count - 1; holder++) {
                EventloopRow row = round(count);
                row.define(holder, KEY, VALUE, 4);
                for (int object = 0; object < count; object++) {
                    Check.same("in a round of " + count, row.get(object, KEY), VALUE);
                    Check.sign("in a round of " + count, row.has(object, KEY), 'y');
                    Check.sign("in a round of " + count, row.set(object, KEY, 1), 'n');
                }
                row.delete(holder, KEY);
                Check.sign("the round again", row.has(0, KEY), 'T');
                Check.sign("opened", row.setChain(holder, NONE), 'y');
                Check.same("opened", row.get(count - 1, KEY), 0);
                Check.sign("opened", row.has(holder, KEY), 'n');
                Check.sign("opened", row.set(count - 1, KEY, 1), 'y');
            }
        }
    }

    /** What does not go along chains is never the fault in a round. */
    private static void noRounds() {
        EventloopRow row = round(12);
        for (int object = 0; object < 12; object++) {
            Check.sign("delete", row.delete(object, KEY), 'y');
            Check.same("keys", row.keys(object), 0);
            Check.sign("define", row.define(object, KEY, 1, 7), 'y');
            Check.same("rights", row.rights(object, KEY), 7);
            Check.same("keyAt", row.keyAt(object, 0), KEY);
        }
        for (int object = 0; object < 12; object++) {
            Check.sign("closeObject", row.closeObject(object), 'y');
        }
        EventloopRow outside = round(3);
        outside.addObject(2);
        Check.fails("into a round", FAULT, () -> outside.get(3, KEY));
        outside.define(3, KEY, VALUE, 7);
        Check.same("ahead of a round", outside.get(3, KEY), VALUE);
        Check.sign("ahead of a round", outside.set(3, KEY, 6), 'y');
        Check.same("ahead of a round", outside.get(3, KEY), 6);
        EventloopRow straight = new EventloopRow();
        straight.addObject(NONE);
        for (int object = 1; object < 12; object++) {
            straight.addProxy(object - 1);
        }
        Check.same("12 objects without a round", straight.get(11, KEY), 0);
        Check.sign("12 objects without a round", straight.has(11, KEY), 'n');
        Check.sign("12 objects without a round", straight.set(11, KEY, 1), 'y');
        Check.same("12 objects without a round", straight.get(0, KEY), 1);
    }

    private static void settingInARound() {
        EventloopRow row = round(4);
        row.define(1, KEY, VALUE, 7);
        Check.sign("it is written in the round", row.set(0, KEY, 8), 'y');
        Check.same("the one that receives", row.get(0, KEY), 8);
        Check.same("the one that has it keeps it", row.get(1, KEY), VALUE);
        Check.sign("a proxy that receives", row.set(3, KEY, 9), 'y');
        Check.same("its target", row.get(2, KEY), 9);
    }

    /** To set its chain: yes if it is the same one. */
    private static void theSameChain() {
        EventloopRow row = chained(3);
        row.addProxy(2);
        row.closeObject(0);
        row.closeObject(2);
        Check.sign("none, again", row.setChain(0, NONE), 'y');
        Check.sign("the same, closed", row.setChain(2, 1), 'y');
        Check.sign("the same, open", row.setChain(1, 0), 'y');
        Check.sign("the same, by a proxy", row.setChain(3, 1), 'y');
    }

    /** Otherwise no if it is closed. */
    private static void chainsOfClosedObjects() {
        EventloopRow row = chained(4);
        row.addProxy(3);
        row.define(0, KEY, VALUE, 7);
        row.closeObject(3);
        Check.sign("closed", row.setChain(3, 0), 'n');
        Check.sign("closed, none", row.setChain(3, NONE), 'n');
        Check.sign("closed, by a proxy", row.setChain(4, 1), 'n');
        Check.same("it keeps its chain", row.get(3, KEY), VALUE);
        row.closeObject(0);
        Check.sign("a closed one without a chain", row.setChain(0, 3), 'n');
        Check.sign("open, to a closed one", row.setChain(2, 0), 'y');
    }

    /** Or if going along chains from the new one meets the object itself. */
    private static void chainsThatMeetTheObject() {
        EventloopRow row = chained(12);
        for (int chain = 0; chain < 12; chain++) {
            Check.sign("meets it behind " + chain, row.setChain(0, chain), 'n');
        }
        for (int object = 0; object < 12; object++) {
            Check.sign("itself", row.setChain(object, object), 'n');
        }
        for (int chain = 0; chain < 11; chain++) {
            Check.sign("not met: " + chain, row.setChain(11, chain), 'y');
        }
        Check.sign("met", row.setChain(5, 11), 'n');
        Check.sign("cut", row.setChain(11, 4), 'y');
        Check.sign("no more met", row.setChain(5, 11), 'y');
        Check.sign("met now", row.setChain(4, 5), 'n');
        Check.sign("none", row.setChain(5, NONE), 'y');
    }

    /** As long as there are plain objects: a proxy ends the search. */
    private static void chainsBehindProxies() {
        EventloopRow row = chained(2);
        row.addProxy(1);
        row.addObject(2);
        Check.sign("its own proxy", row.setChain(1, 2), 'y');
        row.setChain(1, NONE);
        Check.sign("behind its own proxy", row.setChain(1, 3), 'y');
        row.setChain(1, NONE);
        Check.sign("by its proxy, itself", row.setChain(2, 1), 'n');
        Check.sign("by its proxy, this proxy", row.setChain(2, 2), 'y');
        Check.sign("so it is in a round", row.has(1, KEY), 'T');
    }

    /** An answer told is for one thing alone; nothing is changed by it. */
    private static void answersOneByOne() {
        for (char told : new char[] {'g', 'h', 's', 'd'}) {
            EventloopRow row = new EventloopRow();
            row.addObject(NONE);
            row.addProxy(0);
            row.define(0, KEY, VALUE, 7);
            row.tell(1, told, told == 'g' ? 6 : 0);
            Check.same(told + ": getting", row.get(1, KEY), told == 'g' ? 6 : VALUE);
            Check.sign(told + ": asking", row.has(1, KEY), told == 'h' ? 'n' : 'y');
            Check.sign(told + ": setting", row.set(1, KEY, 7), told == 's' ? 'n' : 'y');
            Check.same(told + ": setting", row.get(0, KEY), told == 's' ? VALUE : 7);
            Check.sign(told + ": deleting", row.delete(1, KEY), told == 'd' ? 'n' : 'y');
            Check.same(told + ": deleting", row.keys(0), told == 'd' ? 1 : 0);
            Check.sign(told + ": defining", row.define(1, KEY, 9, 7), 'y');
            Check.same(told + ": rights", row.rights(1, KEY), 7);
            Check.same(told + ": listing", row.keys(1), 1);
            Check.sign(told + ": closing", row.closeObject(1), 'y');
        }
    }

    private static void withoutAnAnswer() {
        EventloopRow row = chained(2);
        row.define(0, KEY, VALUE, 7);
        row.addProxy(1);
        row.addProxy(2);
        Check.same("getting, of the chain of the target", row.get(3, KEY), VALUE);
        Check.sign("asking", row.has(3, KEY), 'y');
        Check.sign("deleting, not of the chain", row.delete(3, KEY), 'y');
        Check.same("deleting, not of the chain", row.keys(0), 1);
        Check.sign("setting", row.set(3, KEY, 6), 'y');
        Check.same("setting", row.rights(1, KEY), 7);
        Check.same("setting", row.get(0, KEY), VALUE);
    }

    private static void allFaults(String what, EventloopRow row, int proxy) {
        Check.sign(what + ": define", row.define(proxy, KEY, 1, 7), 'T');
        Check.sign(what + ": set", row.set(proxy, KEY, 1), 'T');
        Check.fails(what + ": get", FAULT, () -> row.get(proxy, KEY));
        Check.sign(what + ": has", row.has(proxy, KEY), 'T');
        Check.sign(what + ": delete", row.delete(proxy, KEY), 'T');
        Check.sign(what + ": closeObject", row.closeObject(proxy), 'T');
        Check.sign(what + ": setChain", row.setChain(proxy, NONE), 'T');
        Check.fails(what + ": keys", FAULT, () -> row.keys(proxy));
        Check.fails(what + ": keyAt", FAULT, () -> row.keyAt(proxy, 0));
        Check.fails(what + ": rights", FAULT, () -> row.rights(proxy, KEY));
    }

    /** If it is revoked, all that is done with it is the fault 'T', with answers and without. */
    private static void revoked() {
        for (int told = 0; told < 2; told++) {
            EventloopRow row = new EventloopRow();
            row.addObject(NONE);
            row.addProxy(0);
            row.addProxy(1);
            row.addProxy(0);
            row.addObject(1);
            row.define(0, KEY, VALUE, 7);
            if (told == 1) {
                for (char what : new char[] {'g', 'h', 's', 'd'}) {
                    row.tell(1, what, 1);
                }
            }
            Check.no("not revoked", row.revoke(1));
            allFaults("revoked", row, 1);
            allFaults("its proxy", row, 2);
            Check.fails("as a chain", FAULT, () -> row.get(4, KEY));
            Check.sign("as a chain", row.has(4, KEY), 'T');
            Check.sign("as a chain", row.set(4, KEY, 1), 'T');
            Check.sign("as a chain, deleting", row.delete(4, KEY), 'y');
            Check.same("the target", row.get(0, KEY), VALUE);
            Check.same("another proxy", row.get(3, KEY), VALUE);
            Check.same("told when it is revoked", row.tell(1, 'g', 6) ? 1 : 0, told);
            Check.fails("told when it is revoked", FAULT, () -> row.get(1, KEY));
            Check.sign("the target is open, and has its chain", row.set(0, 9, 1), 'y');
        }
    }

    /** Where a target that is a proxy is asked through its own target, which is the fault 'T' if one is revoked. */
    private static void revokedBehindAnAnswer() {
        for (int gone = 0; gone < 4; gone++) {
            for (int yes = 0; yes < 2; yes++) {
                EventloopRow row = new EventloopRow();
                row.addObject(NONE);
                row.addProxy(0);
                row.addProxy(1);
                row.addProxy(2);
                row.addProxy(0);
                for (char what : new char[] {'g', 'h', 's', 'd'}) {
                    row.tell(3, what, yes);
                }
                row.revoke(gone == 0 ? 4 : gone);
                char due = gone > 0 ? 'T' : yes == 1 ? 'y' : 'n';
                Check.sign("asking, revoked is " + gone, row.has(3, KEY), due);
                Check.sign("setting, revoked is " + gone, row.set(3, KEY, 1), due);
                Check.sign("deleting, revoked is " + gone, row.delete(3, KEY), due);
                if (gone > 0) {
                    Check.fails("getting, revoked is " + gone, FAULT, () -> row.get(3, KEY));
                } else {
                    Check.same("getting, none is revoked", row.get(3, KEY), yes);
                }
            }
        }
    }

    /** An object 0 whose key 4 has the value 5 and these rights, and proxies 1 to count. */
    private static EventloopRow behind(int count, int rights, boolean closed) {
        EventloopRow row = new EventloopRow();
        row.addObject(NONE);
        for (int proxy = 1; proxy <= count; proxy++) {
            row.addProxy(proxy - 1);
        }
        if (rights != NONE) {
            row.define(0, KEY, VALUE, rights);
        }
        if (closed) {
            row.closeObject(0);
        }
        return row;
    }

    /** The four answers, for each rights of the property, and none, open and closed, with its value and another one. */
    private static void toldAnswers() {
        for (int rights = NONE; rights < 8; rights++) {
            for (int which = 0; which < 8; which++) {
                boolean closed = (which & 1) != 0;
                int proxy = (which & 2) == 0 ? 1 : 3;
                int value = (which & 4) == 0 ? VALUE : VALUE + 1;
                EventloopRow row = behind(proxy, rights, closed);
                boolean fixed = rights != NONE && (rights & 5) == 0 && value != VALUE;
                boolean stays = rights != NONE && ((rights & 4) == 0 || closed);
                String what = "told of " + rights + ", " + which;
                row.tell(proxy, 'g', value);
                if (fixed) {
                    Check.fails(what + ": getting", FAULT, () -> row.get(proxy, KEY));
                } else {
                    Check.same(what + ": getting", row.get(proxy, KEY), value);
                }
                row.tell(proxy, 'h', 0);
                Check.sign(what + ": asking with no", row.has(proxy, KEY), stays ? 'T' : 'n');
                row.tell(proxy, 'h', 1);
                Check.sign(what + ": asking with yes", row.has(proxy, KEY), 'y');
                row.tell(proxy, 's', 1);
                Check.sign(what + ": setting with yes", row.set(proxy, KEY, value), fixed ? 'T' : 'y');
                row.tell(proxy, 's', 0);
                Check.sign(what + ": setting with no", row.set(proxy, KEY, value), 'n');
                row.tell(proxy, 'd', 1);
                Check.sign(what + ": deleting with yes", row.delete(proxy, KEY), stays ? 'T' : 'y');
                row.tell(proxy, 'd', 0);
                Check.sign(what + ": deleting with no", row.delete(proxy, KEY), 'n');
                Check.same(what + ": nothing is changed", row.get(0, KEY), rights == NONE ? 0 : VALUE);
                Check.same(what + ": nothing is changed", row.keys(0), rights == NONE ? 0 : 1);
                Check.same(what + ": listed by the target", row.keys(proxy), rights == NONE ? 0 : 1);
            }
        }
    }

    /** The property that its target has itself is looked at, not the answers of proxies on the way. */
    private static void toldThroughProxies() {
        EventloopRow row = behind(2, 0, false);
        row.tell(1, 'g', 6);
        row.tell(1, 'h', 0);
        Check.fails("its answer is denied", FAULT, () -> row.get(2, KEY));
        Check.sign("its answer is denied", row.has(2, KEY), 'T');
        row.tell(2, 'g', VALUE);
        row.tell(2, 'h', 1);
        Check.same("the one in front", row.get(2, KEY), VALUE);
        Check.sign("the one in front", row.has(2, KEY), 'y');
        Check.same("of another key", row.get(1, KEY + 1), 6);
        Check.sign("of another key", row.has(1, KEY + 1), 'n');
    }

    /** The property of the target's chain is not looked at; an answer told ends the way along the chain. */
    private static void toldInAChain() {
        EventloopRow row = chained(2);
        row.define(0, KEY, VALUE, 0);
        row.closeObject(0);
        row.addProxy(1);
        row.addObject(2);
        for (int object = 2; object < 4; object++) {
            row.tell(2, 'g', 6);
            Check.same("getting", row.get(object, KEY), 6);
            row.tell(2, 'h', 0);
            Check.sign("asking", row.has(object, KEY), 'n');
            row.tell(2, 's', 1);
            Check.sign("setting", row.set(object, KEY, 6), 'y');
            row.tell(2, 's', 0);
            Check.sign("setting", row.set(object, KEY, 6), 'n');
            row.tell(2, 'd', 0);
            Check.sign("deleting", row.delete(object, KEY), object == 2 ? 'n' : 'y');
        }
        Check.same("nothing is added", row.keys(1) + row.keys(3), 0);
        row.closeObject(1);
        Check.sign("closed, but there is none", row.has(2, KEY), 'n');
    }
}
