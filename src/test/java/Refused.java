import java.util.function.Consumer;
import java.util.function.IntSupplier;
import java.util.function.Supplier;

/** Refused calls: each throws what is due, and all calls behind it answer as if it had not been. */
final class Refused {
    /** Calls on a language; what they answer is written behind one another. Each takes fewer than 420 calls. */
    private interface Probe {
        void ask(EventloopRow row, StringBuilder answers);
    }

    private static final Probe[] PROBES = {Refused::lists, Refused::rights, Refused::gets, Refused::asks,
        Refused::sets, Refused::deletes, Refused::defines, Refused::chains, Refused::proxies, Refused::adds,
        Refused::tasks, Refused::trace, Refused::figures};

    private Refused() {
    }

    /** The call is refused in this language, and changes nothing in it. */
    static void call(String what, Class<? extends RuntimeException> due, Supplier<EventloopRow> made,
            Consumer<EventloopRow> call) {
        for (int i = 0; i < PROBES.length; i++) {
            EventloopRow row = made.get();
            Check.fails(what, due, () -> call.accept(row));
            StringBuilder got = new StringBuilder();
            PROBES[i].ask(row, got);
            StringBuilder want = new StringBuilder();
            PROBES[i].ask(made.get(), want);
            Check.text(what + ", calls behind it (" + i + ")", got.toString(), want.toString());
        }
    }

    private static void note(StringBuilder answers, IntSupplier call) {
        try {
            answers.append(call.getAsInt());
        } catch (RuntimeException thrown) {
            answers.append(thrown.getClass().getSimpleName());
        }
        answers.append(' ');
    }

    private interface OfProperty {
        int ask(int object, int key);
    }

    private static void each(StringBuilder answers, OfProperty call) {
        for (int object = 0; object < 12; object++) {
            for (int key = 0; key < 20; key++) {
                int asked = object;
                int askedKey = key;
                note(answers, () -> call.ask(asked, askedKey));
            }
        }
    }

    private static void lists(EventloopRow row, StringBuilder answers) {
        for (int object = 0; object < 12; object++) {
            int asked = object;
            note(answers, () -> row.keys(asked));
            for (int i = 0; i < 8; i++) {
                int index = i;
                note(answers, () -> row.keyAt(asked, index));
            }
        }
    }

    private static void rights(EventloopRow row, StringBuilder answers) {
        each(answers, row::rights);
    }

    private static void gets(EventloopRow row, StringBuilder answers) {
        each(answers, row::get);
    }

    private static void asks(EventloopRow row, StringBuilder answers) {
        each(answers, row::has);
    }

    private static void sets(EventloopRow row, StringBuilder answers) {
        each(answers, (object, key) -> row.set(object, key, 1));
    }

    private static void deletes(EventloopRow row, StringBuilder answers) {
        each(answers, row::delete);
    }

    private static void defines(EventloopRow row, StringBuilder answers) {
        each(answers, (object, key) -> row.define(object, key, 10, 5));
    }

    private static void chains(EventloopRow row, StringBuilder answers) {
        for (int object = 0; object < 12; object++) {
            for (int chain = -1; chain < 12; chain++) {
                int asked = object;
                int other = chain;
                note(answers, () -> row.setChain(asked, other));
                note(answers, () -> row.has(asked, 12));
            }
        }
    }

    private static void proxies(EventloopRow row, StringBuilder answers) {
        for (int object = 0; object < 12; object++) {
            int asked = object;
            for (char what : new char[] {'g', 'h', 's', 'd'}) {
                note(answers, () -> row.tell(asked, what, 1) ? 1 : 0);
            }
            note(answers, () -> row.revoke(asked) ? 1 : 0);
            note(answers, () -> row.closeObject(asked));
        }
    }

    private static void adds(EventloopRow row, StringBuilder answers) {
        for (int i = 0; i < 13; i++) {
            note(answers, () -> row.addObject(-1));
            note(answers, row::addFunction);
        }
        for (int function = 0; function < 8; function++) {
            for (int i = 0; i < 17; i++) {
                int filled = function;
                note(answers, () -> row.add(filled, 'l', 0, 0, 0));
            }
        }
    }

    private static void tasks(EventloopRow row, StringBuilder answers) {
        for (int i = 0; i < 40; i++) {
            int function = i < 9 ? i : i % 3;
            note(answers, () -> row.post(function));
        }
        for (int i = 0; i < 40; i++) {
            note(answers, () -> row.turn(3));
            figures(row, answers, 3);
        }
        trace(row, answers, 60);
    }

    private static void trace(EventloopRow row, StringBuilder answers) {
        trace(row, answers, 402);
    }

    private static void trace(EventloopRow row, StringBuilder answers, int most) {
        for (int i = 0; i < most; i++) {
            int index = i;
            note(answers, () -> row.traceAt(index));
        }
    }

    private static void figures(EventloopRow row, StringBuilder answers) {
        figures(row, answers, 11);
        for (int promise = 0; promise <= 60; promise++) {
            int asked = promise;
            note(answers, () -> row.stateOf(asked));
            note(answers, () -> row.numberOf(asked));
        }
    }

    private static void figures(EventloopRow row, StringBuilder answers, int most) {
        IntSupplier[] calls = {() -> (int) row.traced(), row::timers, row::promises, row::time, row::unhandled,
            row::late, row::jobs, () -> Float.floatToIntBits(row.waitingShare()),
            () -> Double.hashCode(row.meanInstructions()), () -> row.isSound() ? 1 : 0, () -> row.turn(1)};
        for (int i = 0; i < most && i < calls.length; i++) {
            note(answers, calls[i]);
        }
    }
}
