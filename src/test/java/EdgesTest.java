import java.util.Random;

/**
 * Long lines whose every value is the least or the greatest of its range, where sums and products
 * grow the most: every answer must be the model's, whose fractions have no bounds.
 */
public final class EdgesTest {
    private static final int[][] EDGES = {{0, 99}, {0, 30}, {0, 9}, {0, 1}};
    private static final int[][] SETTINGS = {{1, 60}, {0, 20}, {0, 1, 20}, {1, 7, 199, 200},
        {1, 2, 3, 4, 8}, {0, 9}};
    private static final int LEAST_N = 12;

    private final Due due = new Due("edges");
    private final Random random;
    private Pair pair;
    private int n;

    private EdgesTest(long seed) {
        this.random = new Random(seed);
    }

    public static void main(String[] args) throws Exception {
        int lines = args.length > 0 ? Integer.parseInt(args[0]) : 60;
        EdgesTest test = new EdgesTest(args.length > 1 ? Long.parseLong(args[1]) : 1);
        for (int i = 0; i < lines; i++) {
            test.line();
        }
        test.due.end();
    }

    private int one(int... values) {
        return values[random.nextInt(values.length)];
    }

    private void line() throws Exception {
        pair = new Pair(due);
        // Few of the greatest values leave more sound plans, many leave more flaws.
        int high = 1 + random.nextInt(8);
        n = LEAST_N + random.nextInt(21 - LEAST_N);
        ground(high);
        for (int what = 1; what <= 3; what++) {
            for (int x = 0; x <= n; x++) {
                pair.call("lays", x, what, EDGES[what][random.nextInt(10) < high ? 1 : 0]);
            }
        }
        for (int what = 0; what <= 5; what++) {
            pair.call("sets", what, one(SETTINGS[what]));
        }
        look();
        towers();
        pair.call("otherwise", 5, one(0, 9));
        pair.call("otherwise", 3, one(1, 200));
        pair.call("builds");
        look();
    }

    private void ground(int high) throws Exception {
        StringBuilder text = new StringBuilder("g");
        int ground = one(0, 99);
        for (int x = 0; x <= n; x++) {
            ground = random.nextInt(10) < high ? 99 - ground : ground;
            text.append(x == 0 ? "" : ",").append(ground);
        }
        pair.type(text.append(';').toString());
        pair.call("reads");
    }

    private void towers() throws Exception {
        int dense = 1 + random.nextInt(9);
        for (int x = 0; x <= n; x++) {
            if (random.nextInt(10) < dense || x == 0 || x == n) {
                pair.call("puts", x, one(0, 2, 3, 5));
            }
        }
        for (int x = 0; x <= n; x++) {
            for (String name : new String[] {"room", "nearest", "pull"}) {
                pair.call(name, x);
                pair.call("upper");
                pair.call("lower");
            }
        }
    }

    private void look() throws Exception {
        for (int what = 0; what <= 3; what++) {
            pair.call("cheapest", what);
        }
        pair.call("all", 2);
        pair.call("all", 12);
        pair.call("digest");
    }
}
