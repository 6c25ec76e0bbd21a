import java.lang.reflect.Method;
import java.lang.reflect.Modifier;
import java.util.Arrays;
import java.util.Comparator;
import java.util.Set;

/**
 * "No call may ever throw or fail to end, for any arguments in any state": every method with every
 * choice of the least, the greatest and the next values of all ranges, and of wild ones, in states
 * of many sorts. Every answer must be the model's.
 */
public final class WildTest {
    private static final int[] WILD = {Integer.MIN_VALUE, Integer.MIN_VALUE + 1, -65536, -4, -3, -2,
        -1, 0, 1, 2, 3, 4, 5, 6, 7, 8, 9, 10, 11, 12, 13, 19, 20, 21, 22, 30, 31, 59, 60, 61, 99, 100,
        127, 128, 200, 201, 256, 65536, Integer.MAX_VALUE - 1, Integer.MAX_VALUE};
    private static final long MOST_SECONDS = 900;
    private static final Set<String> UNDONE =
            Set.of("reads", "lays", "sets", "puts", "takes", "moves", "builds");
    private static final Set<String> TYPED = Set.of("type", "clear", "back");
    private static final String FULL_TEXT = "g1,2,3;r04;" + "r4;".repeat(63);
    /** A text that is read first, calls that follow, and a text that is left to be read. */
    private static final String[][] STATES = {
        {"", "", ""},
        {"", "puts(0, 3) puts(4, 1) puts(10, 5) room(2) takes(4) back()", "g0,9"},
        {"g0,0,0;", "builds() builds() back() puts(1, 0) puts(0, 0) puts(2, 2)", "g0,0,0;"},
        {"g0,0,0;b1;r1;", "puts(1, 2)", FULL_TEXT},
        {"g99,0,99,0,99,0;f60,20;s20,1;r8;l9;n0,5,30;p0,9;p5,9;b1;b2;b3;b4;",
            "puts(0, 5) puts(1, 2) puts(2, 0) puts(3, 4) puts(4, 1) puts(5, 3) pull(3)", "b"},
        {"g0,0,0,0,0,0,0,0,0,0,0,0,0,0,0,0,0,0,0,0,0;r1;", "puts(0, 0) puts(20, 5) room(10)", ""},
        {"g99,0,0,0,0,0,0,0,0,0,0,0,0,0,0,0,0,0,0,0,99;r2;s20,200;f60,20;n0,20,0;",
            "puts(10, 0) builds() moves(0, 1) nearest(1)", "g00,01,02;s020,200;"}};

    private final Due due = new Due("wild");
    private String[] state;
    private Pair pair;

    public static void main(String[] args) throws Exception {
        endInTime();
        WildTest test = new WildTest();
        for (String[] state : STATES) {
            test.state = state;
            test.start();
            for (Method method : publicMethods()) {
                test.tryAll(method);
            }
        }
        test.due.end();
    }

    /** In an order that is the same each time. */
    private static Method[] publicMethods() {
        return Arrays.stream(SpanSpotter.class.getDeclaredMethods())
                .filter(method -> Modifier.isPublic(method.getModifiers()))
                .sorted(Comparator.comparing(Method::getName)).toArray(Method[]::new);
    }

    /** A call that does not end is a fault too, and must not keep the tests from ending. */
    private static void endInTime() {
        Thread watch = new Thread(() -> {
            try {
                Thread.sleep(MOST_SECONDS * 1000);
            } catch (InterruptedException e) {
                return;
            }
            System.out.println("wild: no end after " + MOST_SECONDS + " seconds");
            Runtime.getRuntime().halt(1);
        });
        watch.setDaemon(true);
        watch.start();
    }

    private void start() throws Exception {
        pair = new Pair(due);
        pair.type(state[0]);
        if (!state[0].isEmpty()) {
            pair.call("reads");
            pair.call("clear");
        }
        for (String words : state[1].split(" (?=[a-z])")) {
            if (!words.isEmpty()) {
                callWords(words);
            }
        }
        pair.type(state[2]);
    }

    private void callWords(String words) throws Exception {
        String[] parts = words.replaceAll("[(),]", " ").trim().split(" +");
        int[] arguments = new int[parts.length - 1];
        for (int i = 0; i < arguments.length; i++) {
            arguments[i] = Integer.parseInt(parts[i + 1]);
        }
        pair.call(parts[0], arguments);
    }

    private void tryAll(Method method) throws Exception {
        int[] at = new int[method.getParameterCount()];
        boolean more = true;
        while (more) {
            int[] arguments = new int[at.length];
            for (int i = 0; i < at.length; i++) {
                arguments[i] = WILD[at[i]];
            }
            tryOne(method.getName(), arguments);
            more = advance(at);
        }
        pair.call("digest");
    }

    private static boolean advance(int[] at) {
        for (int i = 0; i < at.length; i++) {
            at[i]++;
            if (at[i] < WILD.length) {
                return true;
            }
            at[i] = 0;
        }
        return false;
    }

    /** Makes a call on objects that are still good for it, and leaves them in the same state. */
    private void tryOne(String name, int[] arguments) throws Exception {
        if (pair.callsLeft() < 4) {
            start();
        }
        long answer = pair.call(name, arguments);
        if (UNDONE.contains(name) && answer >= 0) {
            pair.call("back");
        } else if (TYPED.contains(name) && answer >= 0) {
            start();
        }
    }
}
