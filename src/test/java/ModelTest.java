import java.util.Random;

/**
 * Long runs of calls with chosen and with wild arguments, on the program and on the model, of
 * which every answer must be the same. The runs are the same each time.
 */
public final class ModelTest {
    private static final String LETTERS = "gnpbfsrl,;0123456789x \0\177";
    private final Due due = new Due("model");
    private final Random random;
    private final int longest;
    private Pair pair;
    private int left;

    private ModelTest(long seed, int longest) {
        this.random = new Random(seed);
        this.longest = longest;
    }

    public static void main(String[] args) throws Exception {
        int runs = args.length > 0 ? Integer.parseInt(args[0]) : 200;
        long seed = args.length > 1 ? Long.parseLong(args[1]) : 1;
        ModelTest small = new ModelTest(seed, 7);
        for (int i = 0; i < runs; i++) {
            small.run(512);
        }
        ModelTest large = new ModelTest(seed + 1000, 20);
        for (int i = 0; i < 1 + runs / 33; i++) {
            large.run(260);
        }
        small.due.end();
        large.due.end();
    }

    /** Makes so many calls, of which the last one is digest(); no object is good for over 512. */
    private void run(int calls) throws Exception {
        pair = new Pair(due);
        left = calls - 1;
        profile();
        while (left > 0) {
            step();
        }
        left = 1;
        call("digest");
    }

    private void call(String name, int... arguments) throws Exception {
        if (left > 0) {
            left--;
            pair.call(name, arguments);
        }
    }

    private int below(int bound) {
        return random.nextInt(bound);
    }

    private void type(String text) throws Exception {
        call("clear");
        for (int i = 0; i < text.length(); i++) {
            call("type", text.charAt(i));
        }
        call("reads");
    }

    private void profile() throws Exception {
        type(text());
    }

    private String number(int least, int most) {
        int v = least + below(most - least + 1);
        return v < 10 && below(6) == 0 ? "0" + v : "" + v;
    }

    private String text() {
        int n = 2 + below(longest - 1);
        StringBuilder text = new StringBuilder("g");
        int steep = 1 + below(3) * below(40);
        for (int x = 0; x <= n; x++) {
            text.append(x == 0 ? "" : ",").append(number(0, Math.min(99, steep)));
        }
        text.append(';');
        int more = below(8);
        for (int i = 0; i < more; i++) {
            text.append(item(n));
        }
        return text.toString();
    }

    private String item(int n) {
        int p = below(n + 1);
        return switch (below(9)) {
            case 0 -> "n" + p + "," + number(p, n) + "," + number(0, below(4) == 0 ? 30 : 6) + ";";
            case 1, 2 -> "p" + p + "," + number(0, 9) + ";";
            case 3 -> "b" + number(1, n - 1) + ";";
            case 4 -> "f" + number(1, below(2) == 0 ? 60 : 20) + "," + number(0, 20) + ";";
            case 5 -> "s" + number(0, 20) + "," + number(1, 200) + ";";
            case 6 -> "s" + number(0, 4) + "," + number(1, 30) + ";";
            case 7 -> "r" + number(1, 8) + ";";
            default -> "l" + number(0, 9) + ";";
        };
    }

    private String spoilt(String text) {
        StringBuilder spoilt = new StringBuilder(text);
        int at = below(text.length());
        switch (below(4)) {
            case 0 -> spoilt.setLength(at);
            case 1 -> spoilt.deleteCharAt(at);
            case 2 -> spoilt.insert(at, LETTERS.charAt(below(LETTERS.length())));
            default -> spoilt.setCharAt(at, LETTERS.charAt(below(LETTERS.length())));
        }
        return spoilt.toString();
    }

    private int wild() {
        int[] odd = {-1, -2, -7, 5, 6, 7, 12, 13, 21, 100, 128, 1000,
            Integer.MIN_VALUE, Integer.MAX_VALUE};
        return odd[below(odd.length)];
    }

    private int value(int least, int most) {
        return below(15) == 0 ? wild() : least + below(most - least + 1);
    }

    private int place() {
        return value(0, pair.model.now.n);
    }

    private int setting(int what) {
        int[] most = {40, 20, 6, 60, 8, 9};
        return below(6) == 0 ? value(0, 201) : value(0, most[what]);
    }

    private int height(int what) {
        return value(0, what == 0 ? 40 : what == 1 ? 12 : what == 2 ? 9 : 1);
    }

    private void step() throws Exception {
        switch (below(28)) {
            case 0 -> type(text());
            case 1 -> type(spoilt(text()));
            case 2 -> call("type", value(0, 127));
            case 3 -> call("place", place(), value(0, 4));
            case 4, 5 -> {
                int what = below(4);
                call("lays", place(), below(12) == 0 ? wild() : what, height(what));
            }
            case 6, 7 -> {
                int what = below(6);
                call("sets", below(12) == 0 ? wild() : what, setting(what));
            }
            case 8, 9, 10 -> call("puts", place(), value(0, 5));
            case 11 -> call("takes", place());
            case 12 -> call("moves", place(), place());
            case 13 -> call("flaw", value(0, 6), value(0, 1));
            case 14 -> fraction("room");
            case 15 -> fraction("nearest");
            case 16 -> fraction("pull");
            case 17 -> call("cheapest", value(0, 3));
            case 18 -> call("spot", value(0, 5), value(0, 1));
            case 19 -> call("through", place());
            case 20, 21 -> call("builds");
            case 22 -> {
                int what = below(6);
                call("otherwise", below(12) == 0 ? wild() : what, setting(what));
            }
            case 23 -> call("all", value(0, 12));
            case 24, 25 -> call("back");
            case 26 -> call("told", value(0, 4));
            default -> call("digest");
        }
    }

    private void fraction(String name) throws Exception {
        call(name, place());
        call("upper");
        call("lower");
    }
}
