import java.lang.reflect.InvocationTargetException;
import java.lang.reflect.Method;
import java.lang.reflect.Modifier;
import java.util.ArrayList;
import java.util.Arrays;
import java.util.Comparator;
import java.util.List;
import java.util.Set;

/**
 * Any calls with any arguments: only what the face names is thrown, what is refused changes nothing,
 * and the same calls on another object answer the same.
 */
public final class AnyCallTest {
    private static final int LEDGERS = 300;
    private static final int LOOKS_A_LEDGER = 6;
    // behind these few calls are left on an object, so that a look would need too many of them
    private static final int LAST_LOOK = 400;
    private static final int[] EDGES = {
        Integer.MIN_VALUE, -1, 0, 1, 2, 3, 4, 5, 6, 7, 11, 12, 13, 19, 20, 29, 30, 31, 40, 99, 100, 101,
        399, 400, 1000, 1001, 4095, 4096, 100_000, 100_001, 1_000_000, 1_000_001, Integer.MAX_VALUE};
    private static final String[] TEXTS = {
        "return 3/2 within 2;", "loan 1/10;witness 4;", "return 1000/1 within 0;loan 1000/1;",
        "loan 1/2;;", "witness 1001;", ""};
    private static final Set<String> REFUSE_BY_ANSWER =
            Set.of("feed", "give", "lend", "pass", "breaks", "feast");

    private final Check check = new Check();
    private final List<Method> face = face();
    private long seed = 16_112_026L;

    public static void main(String[] args) {
        AnyCallTest test = new AnyCallTest();
        test.check.sentence("any calls with any arguments");
        for (int i = 0; i < LEDGERS; i++) {
            test.run();
        }
        test.check.end();
    }

    private static List<Method> face() {
        return Arrays.stream(FeastLedger.class.getDeclaredMethods())
                .filter(method -> Modifier.isPublic(method.getModifiers()))
                .sorted(Comparator.comparing(Method::getName))
                .toList();
    }

    private int some(int below) {
        seed = seed * 6_364_136_223_846_793_005L + 1_442_695_040_888_963_407L;
        return (int) ((seed >>> 33) % below);
    }

    private void run() {
        Ledger one = new Ledger();
        Ledger other = new Ledger();
        List<Check.Act> past = new ArrayList<>();
        // some ledgers get few wild arguments, so that much comes to stand in them
        int tame = 1 + some(20);
        int looks = 0;
        while (one.callsLeft() > 0) {
            Check.Act feed = anyText();
            if (some(30) == 0 && one.callsLeft() > 2) {
                feed.on(one);
                feed.on(other);
                past.add(feed);
            }
            Method method = face.get(some(face.size()));
            Object[] args = arguments(method, tame);
            Object answer = answer(one, method, args);
            if (!answer.equals(answer(other, method, args))) {
                check.say(told(method, args) + " answered otherwise on another object");
            }
            if (isRefused(method, answer) && looks < LOOKS_A_LEDGER && past.size() < LAST_LOOK
                    && some(8) == 0) {
                looks++;
                look(List.copyOf(past), method, args);
            }
            past.add(x -> quietly(x, method, args));
        }
    }

    private Check.Act anyText() {
        String text = TEXTS[some(TEXTS.length)];
        return x -> Tape.feed(x, text);
    }

    private static boolean isRefused(Method method, Object answer) {
        boolean byAnswer = answer instanceof Integer number && number < 0
                && REFUSE_BY_ANSWER.contains(method.getName());
        return byAnswer || answer instanceof Class;
    }

    private void look(List<Check.Act> past, Method method, Object[] args) {
        check.unchanged(told(method, args), () -> made(past), x -> quietly(x, method, args));
    }

    private static Ledger made(List<Check.Act> past) {
        Ledger x = new Ledger();
        for (Check.Act call : past) {
            call.on(x);
        }
        return x;
    }

    private long quietly(Ledger x, Method method, Object[] args) {
        answer(x, method, args);
        return 0;
    }

    private Object[] arguments(Method method, int tame) {
        Object[] args = new Object[method.getParameterCount()];
        for (int i = 0; i < args.length; i++) {
            args[i] = some(tame) == 0 ? EDGES[some(EDGES.length)] : some(13);
        }
        if (method.getName().equals("chief") && some(2) == 0) {
            args[0] = some(2000);
        }
        return args;
    }

    private Object answer(Ledger x, Method method, Object[] args) {
        try {
            return method.invoke(x.call(), args);
        } catch (InvocationTargetException e) {
            Class<?> thrown = e.getCause().getClass();
            if (!Arrays.asList(method.getExceptionTypes()).contains(thrown)) {
                check.say(told(method, args) + " threw " + e.getCause());
            }
            return thrown;
        } catch (IllegalAccessException e) {
            throw new AssertionError(e);
        }
    }

    private static String told(Method method, Object[] args) {
        return method.getName() + Arrays.toString(args);
    }
}
