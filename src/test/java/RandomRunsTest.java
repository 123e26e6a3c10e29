import java.lang.reflect.InvocationTargetException;
import java.lang.reflect.Method;
import java.util.Arrays;
import java.util.Random;

/** Promises 1 to 14 at once: runs of random calls, each answer held against the model's. */
public final class RandomRunsTest {
    private static final int RUNS = 1500;
    private static final int CALLS = 512;
    private static final int[] EDGE_WORDS = {0, 1, -1, -2, 0x1fffffff, 0x3fffffff, Integer.MIN_VALUE, Integer.MAX_VALUE};
    private static final int[] FAR = {-1, 8, 9, 64, 69, Integer.MIN_VALUE, Integer.MAX_VALUE};

    /** One call, made on either object: both have methods of the same names. */
    private record Call(String name, int... args) {
        String on(Object x) {
            try {
                return String.valueOf(method(x.getClass()).invoke(x, Arrays.stream(args).boxed().toArray()));
            } catch (InvocationTargetException e) {
                return e.getCause().getClass().getName();
            } catch (IllegalAccessException e) {
                throw new AssertionError(e);
            }
        }

        private Method method(Class<?> of) {
            for (Method method : of.getDeclaredMethods()) {
                if (method.getName().equals(name) && method.getParameterCount() == args.length) {
                    return method;
                }
            }
            throw new AssertionError(name);
        }

        @Override
        public String toString() {
            StringBuilder text = new StringBuilder(name).append('(');
            for (int i = 0; i < args.length; i++) {
                text.append(i == 0 ? "" : ", ").append(args[i]);
            }
            return text.append(')').toString();
        }
    }

    private final Checks checks = new Checks();
    private final int[] reasons = new int[6];
    private int ended;
    private Random random;
    private int run;
    private MaskedSum object;
    private Model model;
    private int made;
    private int phones;
    /** How many of a hundred deliveries go wrong. */
    private int trouble;

    public static void main(String[] args) {
        new RandomRunsTest().all();
    }

    private void all() {
        for (run = 0; run < RUNS && !checks.anyWrong(); run++) {
            random = new Random(run);
            object = new MaskedSum();
            model = new Model();
            made = 0;
            phones = 0;
            if (random.nextInt(4) == 0) {
                prod(10);
            }
            while (made < CALLS - 100 && !checks.anyWrong()) {
                playRound();
            }
        }
        meansSomething();
        checks.end();
    }

    /** The runs must have come everywhere. */
    private void meansSomething() {
        checks.due("rounds that ended > 200", ended > 200, true);
        for (int reason = 1; reason <= 5; reason++) {
            checks.due("rounds failed by reason " + reason + " > 20", reasons[reason] > 20, true);
        }
    }

    private void playRound() {
        phones = 3 + random.nextInt(6);
        int least = phones / 2 + 1;
        int threshold = random.nextBoolean() ? least : least + random.nextInt(phones - least + 1);
        trouble = random.nextInt(3) == 0 ? 0 : random.nextInt(random.nextInt(4) == 0 ? 40 : 12);
        settings();
        call("start", phones, threshold);
        if (random.nextBoolean()) {
            settings();
        }
        for (int turn = 0; turn < 60 && made < CALLS - 60 && model.count(1) < 4; turn++) {
            playStage();
            if (random.nextInt(200) == 0) {
                break;
            }
        }
        if (model.count(1) == 4) {
            ended++;
        } else if (model.count(1) == 5) {
            reasons[model.count(2)]++;
        }
        lookAround();
    }

    private void settings() {
        for (int u = 0; u < phones; u++) {
            for (int which = 0; which < 3; which++) {
                if (random.nextInt(3) == 0) {
                    call("secret", u, which, word(), word());
                }
            }
            if (random.nextInt(2) == 0) {
                call("input", u, random.nextInt(4), word());
            }
        }
    }

    private void playStage() {
        for (int u = 0; u < phones; u++) {
            if (random.nextInt(100) >= trouble / 2) {
                call("step", u);
            }
        }
        if (random.nextInt(4) == 0) {
            prod(1 + random.nextInt(4));
        }
        int waiting = model.count(0);
        for (int i = 0; i < waiting && model.count(0) > 0; i++) {
            moveMail();
        }
        // Once in a while with messages still on their way.
        if (model.count(0) == 0 || random.nextInt(5) == 0) {
            call("close");
            if (random.nextInt(4) == 0) {
                prod(1 + random.nextInt(3));
            }
            waiting = model.count(0);
            for (int i = 0; i < waiting && model.count(0) > 0; i++) {
                moveMail();
            }
        }
    }

    private void moveMail() {
        int k = random.nextInt(3) == 0 ? random.nextInt(model.count(0)) : 0;
        if (random.nextInt(100) < trouble) {
            int kind = random.nextInt(4);
            if (kind == 0) {
                call("lose", k);
                return;
            }
            if (kind == 1) {
                return;
            }
            int word = random.nextInt(3) == 0 ? 0 : random.nextInt(model.message(k, 3));
            call("alter", k, word, random.nextInt(4) == 0 ? word() : 1 << random.nextInt(10));
        }
        call("deliver", k);
    }

    /** Some calls of any kind. */
    private void prod(int calls) {
        for (int i = 0; i < calls; i++) {
            switch (random.nextInt(15)) {
                case 0 -> call("start", small(9), small(9));
                case 1 -> call("secret", small(8), small(3), word(), word());
                case 2 -> call("input", small(8), small(4), word());
                case 3 -> call("step", small(phones + 1));
                case 4 -> call("deliver", small(4));
                case 5 -> call("lose", far());
                case 6 -> call("alter", small(model.count(0) + 1), far(), word());
                case 7, 8 -> call("message", small(model.count(0) + 1), small(70));
                case 9 -> call("total", small(5));
                case 10 -> call("phone", small(phones + 1), small(5));
                case 11, 12 -> call("count", small(8));
                case 13 -> call("stream", word(), word(), word(), word(), small(66));
                default -> call("message", small(model.count(0) + 1), far());
            }
        }
        // A start among them may have changed the round: the loops go by what is there.
        if (phones == 0) {
            return;
        }
        int there = 0;
        while (there < 8 && isPhone(there)) {
            there++;
        }
        phones = there;
    }

    private boolean isPhone(int u) {
        try {
            model.phone(u, 0);
            return true;
        } catch (IllegalArgumentException e) {
            return false;
        }
    }

    private void lookAround() {
        for (int what = -1; what <= 7; what++) {
            call("count", what);
        }
        for (int k = 0; k < 4; k++) {
            call("total", k);
        }
        for (int what = 0; what < 4; what++) {
            call("phone", random.nextInt(phones), what);
        }
        if (model.count(0) > 0) {
            int k = random.nextInt(model.count(0));
            call("message", k, random.nextInt(4));
            call("message", k, 4 + random.nextInt(model.message(k, 3)));
        }
    }

    private int small(int bound) {
        return random.nextInt(12) == 0 ? far() : random.nextInt(bound);
    }

    private int far() {
        return FAR[random.nextInt(FAR.length)];
    }

    private int word() {
        return random.nextInt(3) == 0 ? EDGE_WORDS[random.nextInt(EDGE_WORDS.length)] : random.nextInt();
    }

    private void call(String name, int... args) {
        if (made >= CALLS) {
            return;
        }
        made++;
        Call call = new Call(name, args);
        String want = call.on(model);
        checks.same("run " + run + ", call " + made + ": " + call, call.on(object), want);
        if (name.equals("step") && want.equals("true") || name.equals("close") && !want.startsWith("java")) {
            sameMail();
        }
    }

    /** Looks at the newest messages' words. These calls change nothing, so they aren't counted among the 512. */
    private void sameMail() {
        int there = model.count(0);
        checks.due("run " + run + ", call " + made + ": messages", object.count(0), there);
        for (int k = Math.max(0, there - 8); k < there && !checks.anyWrong(); k++) {
            for (int what = 0; what < 4 + model.message(k, 3); what++) {
                String text = "run " + run + ", call " + made + ": message(" + k + ", " + what + ")";
                checks.due(text, object.message(k, what), model.message(k, what));
            }
        }
    }
}
