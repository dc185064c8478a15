import java.lang.reflect.InvocationTargetException;
import java.lang.reflect.Method;
import java.lang.reflect.Modifier;
import java.util.ArrayDeque;
import java.util.ArrayList;
import java.util.Deque;
import java.util.HashMap;
import java.util.List;
import java.util.Map;
import java.util.Random;
import java.util.Set;
import java.util.TreeSet;

/** Long mixed runs of calls on the class and on the second bench: every answer of both is the same. */
public final class SecondBenchTest {
    private static final int RUNS = 700, CALLS = 512;

    /** Of each promise the answers that it names beside a number; all have to be met in the runs. */
    private static final String[] NAMED = {"model BAD FULL", "asked BAD", "common BAD", "stock BAD", "has BAD",
        "phone BAD FULL", "told BAD NONE", "as BAD KIND", "turns BAD", "flag BAD", "promise BAD", "mend BAD NO",
        "strip BAD NO", "sell BAD NO", "hold BAD NO", "choose BAD NO FULL", "clear", "plan BAD", "noon BAD", "feed FULL",
        "trim BAD", "text FAULT FULL", "textTold BAD", "why BAD NONE", "weigh BAD", "check BAD FULL", "says BAD NO", "anew",
        "next NONE", "deep NONE", "run BAD FULL", "rate BAD NONE", "blamed NONE", "seed", "sheet BAD SIZE",
        "mark BAD NOTHING INDEX KIND", "path BAD NOTHING NONE", "fill BAD NOTHING", "copy BAD NOTHING KIND INDEX",
        "lay BAD NOTHING", "ask BAD NOTHING KIND", "item BAD NOTHING KIND INDEX", "rest BAD NOTHING KIND NO", "tell FULL",
        "proves BAD NO", "keep", "back NO", "count BAD"};

    private record Call(String name, int... numbers) {
        @Override
        public String toString() {
            StringBuilder row = new StringBuilder(name).append('(');
            for (int i = 0; i < numbers.length; i++) {
                row.append(i == 0 ? "" : ", ").append(numbers[i]);
            }
            return row.append(')').toString();
        }
    }

    private static final Map<String, Method> OF_CLASS = methods(PhoneBench.class, true);
    private static final Map<String, Method> OF_SECOND = methods(SecondBench.class, false);

    private final Random random;
    private final PhoneBench x = new PhoneBench();
    private final SecondBench second = new SecondBench();
    private final Deque<Call> due = new ArrayDeque<>();
    private final List<String> made = new ArrayList<>();
    private final int[] weights = new int[SecondCalls.GROUPS.length];

    private SecondBenchTest(int run) {
        random = new Random(run);
        for (int i = 0; i < weights.length; i++) {
            weights[i] = 1 + random.nextInt(8);
        }
    }

    public static void main(String[] args) throws ReflectiveOperationException {
        int runs = args.length > 0 ? Integer.parseInt(args[0]) : RUNS;
        Map<String, Set<String>> met = new HashMap<>();
        for (int run = 0; run < runs; run++) {
            Due.about("run " + run);
            new SecondBenchTest(run).go(met);
        }
        Due.about("");
        for (String row : NAMED) {
            String[] words = row.split(" ");
            for (int i = 1; i < words.length; i++) {
                Due.holds(words[0] + " answered " + words[i], met.get(words[0]).contains(words[i]));
            }
            Due.holds(words[0] + " answered a number", met.get(words[0]).contains("a number"));
        }
        Due.is("promises 2 to 49", NAMED.length, 48);
        Due.end("SecondBenchTest");
    }

    private static Map<String, Method> methods(Class<?> of, boolean publicOnes) {
        Map<String, Method> all = new HashMap<>();
        for (Method one : of.getDeclaredMethods()) {
            if (!publicOnes || Modifier.isPublic(one.getModifiers())) {
                one.setAccessible(true);
                all.put(one.getName(), one);
            }
        }
        return all;
    }

    private static int answer(Map<String, Method> methods, Object on, Call call) throws ReflectiveOperationException {
        Method method = methods.get(call.name());
        Object[] numbers = new Object[call.numbers().length];
        for (int i = 0; i < numbers.length; i++) {
            boolean isBoolean = method.getParameterTypes()[i] == boolean.class;
            numbers[i] = isBoolean ? (Object) (call.numbers()[i] != 0) : (Object) call.numbers()[i];
        }
        try {
            return (int) method.invoke(on, numbers);
        } catch (InvocationTargetException thrown) {
            throw new IllegalStateException(call + " threw", thrown.getCause());
        }
    }

    private static String sortOf(String name, int answer) {
        if (name.equals("text") && answer <= -100 && answer >= -196) {
            return "FAULT";
        }
        switch (answer) {
            case Due.BAD: return "BAD";
            case Due.NO: return "NO";
            case Due.FULL: return "FULL";
            case Due.NONE: return "NONE";
            case Due.NOTHING: return "NOTHING";
            case Due.KIND: return "KIND";
            case Due.INDEX: return "INDEX";
            case Due.SIZE: return "SIZE";
            default: return "a number";
        }
    }

    private void go(Map<String, Set<String>> met) throws ReflectiveOperationException {
        SecondCalls calls = new SecondCalls(random, second, (name, numbers) -> due.add(new Call(name, numbers)));
        if (random.nextInt(8) > 0) {
            calls.opening();
        }
        while (made.size() < CALLS) {
            if (due.isEmpty()) {
                calls.more(group());
            }
            Call call = due.remove();
            int want = answer(OF_SECOND, second, call);
            int got = answer(OF_CLASS, x, call);
            made.add(call + " -> " + got);
            met.computeIfAbsent(call.name(), name -> new TreeSet<>()).add(sortOf(call.name(), got));
            Due.is("call " + made.size() + ", " + call, got, want);
            if (got != want) {
                System.out.println(String.join("\n", made.subList(Math.max(0, made.size() - 30), made.size())));
                return;
            }
        }
    }

    private int group() {
        int sum = 0;
        for (int weight : weights) {
            sum += weight;
        }
        int left = random.nextInt(sum);
        int group = 0;
        while (left >= weights[group]) {
            left -= weights[group];
            group++;
        }
        return group;
    }
}
