import java.util.ArrayList;
import java.util.List;

/** The texts of the model: the FAULT by an automaton with a counter, the value by cutting at the last sign. */
final class ModelText {
    static final class Trouble extends Exception {
        private static final long serialVersionUID = 1L;
        final int sort, number, place;

        Trouble(int sort, int number, int place) {
            this.sort = sort;
            this.number = number;
            this.place = place;
        }
    }

    private final String text;
    private final List<List<Integer>> registers, steps;

    ModelText(String text, List<List<Integer>> registers, List<List<Integer>> steps) {
        this.text = text;
        this.registers = registers;
        this.steps = steps;
    }

    /**
     * States: 'w' a value is wanted, 'v' behind a value, 'r' behind r, 'g' behind g, 'h' behind g and a figure;
     * in brackets 's' a number is wanted, 'm' behind its -, '1' to '4' behind so many figures.
     */
    static int fault(String text) {
        char state = 'w';
        int open = 0, comma = 0;
        for (int i = 0; i < text.length(); i++) {
            char x = text.charAt(i);
            boolean figure = x >= '0' && x <= '9';
            char next = '!';
            switch (state) {
                case 'w':
                    if (x == '~') next = 'w';
                    if (x == '(' && open < 4) {
                        next = 'w';
                        open++;
                    }
                    if (x == 'r') next = 'r';
                    if (x == 'g') next = 'g';
                    if (x == '[') {
                        next = 's';
                        comma = 0;
                    }
                    break;
                case 'r':
                    if (x >= '0' && x <= '5') next = 'v';
                    break;
                case 'g':
                    if (figure) next = 'h';
                    break;
                case 'h':
                case 'v':
                    if (figure && state == 'h') next = 'v';
                    if (x == '+' || x == '-' || x == '*') next = 'w';
                    if (x == ')' && open > 0) {
                        next = 'v';
                        open--;
                    }
                    break;
                case 's':
                    if (x == '-') next = 'm';
                    if (figure) next = '1';
                    break;
                case 'm':
                    if (figure) next = '1';
                    break;
                default:
                    if (figure && state < '4') next = (char) (state + 1);
                    if (x == ',' && comma < 3) {
                        next = 's';
                        comma++;
                    }
                    if (x == ']' && comma == 3) next = 'v';
            }
            if (next == '!') return i;
            state = next;
        }
        return (state == 'v' || state == 'h') && open == 0 ? -1 : text.length();
    }

    static List<int[]> groupsOpenAt(String text, int place) {
        List<int[]> open = new ArrayList<>();
        for (int i = 0; i < place; i++) {
            if (text.charAt(i) == '(') open.add(new int[] {2, i});
            if (text.charAt(i) == ')') open.remove(open.size() - 1);
        }
        return open;
    }

    List<Integer> value() throws Trouble {
        return value(0, text.length());
    }

    /** The last of these signs between the places that is in no bracket of its own; -1: none. */
    private int lastSign(String signs, int from, int to) {
        int depth = 0;
        for (int i = to - 1; i >= from; i--) {
            char x = text.charAt(i);
            if (x == ')' || x == ']') depth++;
            if (x == '(' || x == '[') depth--;
            if (depth == 0 && signs.indexOf(x) >= 0) return i;
        }
        return -1;
    }

    private List<Integer> value(int from, int to) throws Trouble {
        int sign = lastSign("+-", from, to);
        if (sign < 0) sign = lastSign("*", from, to);
        if (sign < 0) return factor(from, to);
        List<Integer> left = value(from, sign);
        List<Integer> right = value(sign + 1, to);
        List<Integer> all = new ArrayList<>();
        if (text.charAt(sign) == '*') {
            all = Model.product(left, right);
        } else {
            int by = text.charAt(sign) == '+' ? 1 : -1;
            for (int i = 0; i < 4; i++) all.add(left.get(i) + by * right.get(i));
        }
        if (!Model.fits(all)) throw new Trouble(3, sign, sign);
        return all;
    }

    private List<Integer> factor(int from, int to) throws Trouble {
        switch (text.charAt(from)) {
            case '~':
                return Model.conjugate(factor(from + 1, to));
            case '(':
                return value(from + 1, to - 1);
            case 'r':
                return registers.get(text.charAt(from + 1) - '0');
            case 'g':
                int step = Integer.parseInt(text.substring(from + 1, to));
                if (step >= steps.size()) throw new Trouble(4, step, from);
                return steps.get(step);
            default:
                List<Integer> parts = new ArrayList<>();
                for (String number : text.substring(from + 1, to - 1).split(",")) parts.add(Integer.parseInt(number));
                return parts;
        }
    }
}
