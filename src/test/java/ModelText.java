import java.util.ArrayList;
import java.util.List;

/** The texts of the document for the model: a text is cut into signs, and a fault is thrown. */
final class ModelText {
    private static final class Fault extends Exception {
        private static final long serialVersionUID = 1;
        final int index;

        Fault(int index) {
            super("fault at " + index);
            this.index = index;
        }
    }

    final Model.State state = new Model.State();
    private final String text;
    private int at;

    ModelText(String text) {
        this.text = text;
    }

    /** Returns what reads() answers; the state is what the text describes. */
    int read() {
        try {
            int items = 0;
            do {
                item(items);
                items++;
            } while (at < text.length());
            return items;
        } catch (Fault f) {
            return -10 - f.index;
        }
    }

    private char sign() throws Fault {
        if (at >= text.length()) {
            throw new Fault(text.length());
        }
        return text.charAt(at);
    }

    private void step(String allowed) throws Fault {
        if (allowed.indexOf(sign()) < 0) {
            throw new Fault(at);
        }
        at++;
    }

    private int number(int least, int most, int digits) throws Fault {
        int begin = at;
        step("0123456789");
        while (at < text.length() && at - begin < digits && Character.isDigit(sign())) {
            at++;
        }
        int value = Integer.parseInt(text.substring(begin, at));
        if (value > most) {
            throw new Fault(at - 1);
        }
        if (value < least) {
            throw new Fault(at);
        }
        return value;
    }

    private void item(int items) throws Fault {
        char letter = sign();
        step(items == 0 ? "g" : "npbfsrl");
        int n = state.n;
        switch (letter) {
            case 'g' -> heights();
            case 'n' -> {
                int p = number(0, n, 2);
                step(",");
                int q = number(p, n, 2);
                step(",");
                int c = number(0, 30, 2);
                for (int x = p; x <= q; x++) {
                    state.clearance[x] = c;
                }
            }
            case 'p' -> {
                int p = number(0, n, 2);
                step(",");
                state.price[p] = number(0, 9, 2);
            }
            case 'b' -> state.barred[number(1, n - 1, 2)] = 1;
            case 'f' -> {
                state.setting[0] = number(1, 60, 2);
                step(",");
                state.setting[1] = number(0, 20, 2);
            }
            case 's' -> {
                state.setting[2] = number(0, 20, 2);
                step(",");
                state.setting[3] = number(1, 200, 3);
            }
            case 'r' -> state.setting[4] = number(1, 8, 2);
            default -> state.setting[5] = number(0, 9, 2);
        }
        step(";");
    }

    private void heights() throws Fault {
        List<Integer> heights = new ArrayList<>();
        heights.add(number(0, 99, 2));
        while (heights.size() < 3 || heights.size() < 21 && sign() != ';') {
            step(",");
            heights.add(number(0, 99, 2));
        }
        state.n = heights.size() - 1;
        for (int x = 0; x <= state.n; x++) {
            state.ground[x] = heights.get(x);
        }
    }
}
