import java.lang.reflect.InvocationTargetException;
import java.lang.reflect.Method;
import java.util.ArrayList;
import java.util.HashMap;
import java.util.List;
import java.util.Map;
import java.util.Random;

/** Runs of calls from fixed seeds, with right and wrong numbers, on the program and on the model. */
public final class RandomTest {
    private static final Map<String, Method> OURS = methods(EventloopRow.class);
    private static final Map<String, Method> MODELS = methods(Model.class);
    private static final String LETTERS = "v+mlzjTbegspRXhcqtwAx";
    private static final String USUAL = "vvv+mllljTbbepppRRRRXXhhhhhcccccqqtwwwwwwwAAAxxzgs";

    // What later calls on an object answer is free.
    private static final int MOST_CALLS = 512;
    private static final String[] FIGURES = {"time", "timers", "traced", "promises", "unhandled", "late", "jobs",
        "waitingShare", "meanInstructions", "isSound"};

    private final Random random;
    private final EventloopRow row = new EventloopRow();
    private final Model model = new Model();
    private final List<String> calls = new ArrayList<>();
    private boolean differs;

    private RandomTest(long seed) {
        random = new Random(seed);
    }

    private static Map<String, Method> methods(Class<?> of) {
        Map<String, Method> methods = new HashMap<>();
        for (Method method : of.getDeclaredMethods()) {
            if (java.lang.reflect.Modifier.isPublic(method.getModifiers())) {
                method.setAccessible(true);
                methods.put(method.getName(), method);
            }
        }
        return methods;
    }

    public static void main(String[] args) {
        long runs = args.length > 0 ? Long.parseLong(args[0]) : 4000;
        long first = args.length > 1 ? Long.parseLong(args[1]) : 0;
        Check.same("the face", OURS.size(), 31);
        for (long seed = first; seed < first + runs; seed++) {
            RandomTest test = new RandomTest(seed);
            try {
                if (seed % 2 == 0) {
                    test.objects();
                } else {
                    test.functions();
                }
            } catch (ReflectiveOperationException impossible) {
                throw new IllegalStateException(impossible);
            }
            Check.no("seed " + seed, test.differs);
            if (test.differs) {
                break;
            }
        }
        Check.end();
    }

    private static Object answer(Method method, Object on, Object[] numbers) throws ReflectiveOperationException {
        try {
            return method.invoke(on, numbers);
        } catch (InvocationTargetException thrown) {
            return thrown.getCause().getClass();
        }
    }

    private Object call(String name, Object... numbers) throws ReflectiveOperationException {
        if (differs || calls.size() == MOST_CALLS) {
            return null;
        }
        StringBuilder text = new StringBuilder(name);
        for (Object number : numbers) {
            text.append(' ').append(number);
        }
        Object ours = answer(OURS.get(name), row, numbers);
        Object due = answer(MODELS.get(name), model, numbers);
        text.append(" -> ").append(ours);
        calls.add(text.toString());
        if (!ours.equals(due)) {
            differs = true;
            for (String call : calls) {
                System.out.println(call);
            }
            System.out.println("due is " + due);
        }
        return due;
    }

    /** A number within the range, seldom one beyond its edges. */
    private int within(int least, int most) {
        if (random.nextInt(60) == 0) {
            int[] beyond = {least - 1, most + 1, Integer.MIN_VALUE, Integer.MAX_VALUE};
            return beyond[random.nextInt(4)];
        }
        return least + random.nextInt(most - least + 1);
    }

    private void objects() throws ReflectiveOperationException {
        int objects = 0;
        int most = random.nextInt(3) == 0 ? 13 : 5;
        int keys = random.nextInt(2) == 0 ? 19 : 3;
        boolean revokes = random.nextInt(3) == 0;
        for (int i = 0; i < 300 && !differs; i++) {
            int object = within(0, Math.max(0, objects - 1));
            int key = within(0, keys) + (keys == 3 && random.nextBoolean() ? 9 : 0);
            int value = random.nextInt(20) == 0 ? within(-9999, 9999) : within(0, 1);
            switch (random.nextInt(objects < 3 ? 3 : 20)) {
                case 0, 1 -> objects += objects >= most || !(call("addObject", within(-1, objects - 1))
                        instanceof Integer) ? 0 : 1;
                case 2 -> objects += objects >= most || !(call("addProxy", object) instanceof Integer) ? 0 : 1;
                case 3, 4 -> call("tell", object, "gghhssddx".charAt(random.nextInt(9)), within(0, 1));
                case 5, 6, 7, 8 -> call("define", object, key, value, within(0, 7));
                case 9, 10 -> call("set", object, key, value);
                case 11, 12 -> call("get", object, key);
                case 13 -> call("has", object, key);
                case 14 -> call("delete", object, key);
                case 15 -> {
                    if (random.nextInt(6) == 0) {
                        call("closeObject", object);
                    } else if (revokes && random.nextInt(6) == 0) {
                        call("revoke", object);
                    }
                }
                case 16, 17 -> call("setChain", object, within(-1, objects - 1));
                case 18 -> call("rights", object, key);
                default -> call("keyAt", object, within(0, 6));
            }
        }
        call("isSound");
        int first = random.nextInt(12);
        for (int i = 0; i < objects; i++) {
            lookAtObject((first + i) % objects);
        }
    }

    private void lookAtObject(int object) throws ReflectiveOperationException {
        Object keys = call("keys", object);
        for (int i = 0; keys instanceof Integer && i < (Integer) keys; i++) {
            call("keyAt", object, i);
        }
        for (int key = 0; key < 20; key++) {
            call("get", object, key);
            call("has", object, key);
            call("rights", object, key);
        }
    }

    private int numberOf(char letter, int functions) {
        return switch (letter) {
            case '+', 'm', 'R', 'X', 'A' -> within(0, 3);
            case 'z', 'j', 'b' -> within(0, 16);
            case 'h' -> within(-1, functions - 1);
            case 'c', 'q', 't' -> random.nextInt(40) == 0 ? within(0, 7) : within(0, functions - 1);
            case 'g', 's' -> within(0, 3);
            default -> random.nextInt(20) == 0 ? within(-9999, 9999) : within(0, 2);
        };
    }

    private void functions() throws ReflectiveOperationException {
        call("addObject", -1);
        call("addProxy", 0);
        call("define", 0, 1, 7, random.nextInt(8));
        call("addObject", 1);
        if (random.nextInt(4) == 0) {
            call("revoke", 1);
        }
        int functions = 1 + random.nextInt(5);
        for (int i = 0; i < functions; i++) {
            call("addFunction");
            int length = random.nextInt(17);
            for (int k = 0; k < length; k++) {
                String from = random.nextInt(10) == 0 ? LETTERS : USUAL;
                char letter = from.charAt(random.nextInt(from.length()));
                int b = numberOf(letter, functions);
                int c = letter == 'A' ? within(Math.max(0, Math.min(3, b)), 3) : letter == 'h'
                        ? within(-1, functions - 1) : within(0, 2);
                call("add", i, letter, within(0, 3), b, c);
            }
        }
        for (int i = 0; i < 30 && !differs; i++) {
            if (random.nextInt(3) == 0) {
                call("post", within(0, functions - 1));
            }
            call("turn", random.nextInt(4) == 0 ? within(1, 10) : 1);
            lookAtOne();
        }
        boolean traceFirst = random.nextBoolean();
        if (traceFirst) {
            lookAtTrace();
        }
        for (String name : FIGURES) {
            call(name);
        }
        for (int promise = -1; promise <= model.promises(); promise++) {
            call("stateOf", promise);
            call("numberOf", promise);
        }
        if (!traceFirst) {
            lookAtTrace();
        }
    }

    private void lookAtOne() throws ReflectiveOperationException {
        for (int i = 0; i < 4; i++) {
            call(FIGURES[random.nextInt(FIGURES.length)]);
        }
        call("traceAt", (int) Math.min(399, model.traced() - 1));
        int promise = within(0, Math.max(0, model.promises() - 1));
        call("stateOf", promise);
        call("numberOf", promise);
    }

    /** All of it if it is short, or a part of it. */
    private void lookAtTrace() throws ReflectiveOperationException {
        int most = (int) Math.min(400, model.traced());
        int first = most > 100 ? random.nextInt(most - 60) : 0;
        for (int i = first; i <= most; i++) {
            call("traceAt", i);
        }
    }
}
