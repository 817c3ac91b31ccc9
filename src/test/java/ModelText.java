import java.util.regex.Matcher;
import java.util.regex.Pattern;

/** A text, evaluated while it is being parsed; for the tests alone. */
final class ModelText {
    private static final Pattern TOKEN = Pattern.compile("[ \n]*([a-z]+|[0-9]+|[();+*<=-])");
    private static final String NAMES = " month year rank level read state ";
    private static final String[] ORDER = {"month", "year", "rank", "level", "read", "state"};

    /** Thrown at a fault: only a test may. */
    private static final class Fault extends Exception {
        private static final long serialVersionUID = 1L;
        final int place;

        Fault(int place) {
            this.place = place;
        }
    }

    int may;
    int cut;
    int fault = -1;

    private final String words;
    private final int[] names;
    private String token;
    private int start;
    private int end;
    private int open;

    ModelText(String words, int[] names) {
        this.words = words;
        this.names = names;
        try {
            next();
            must("may");
            may = e();
            must(";");
            must("cut");
            cut = e();
            must(";");
            must("");
        } catch (Fault f) {
            fault = f.place;
        }
    }

    private void next() {
        Matcher m = TOKEN.matcher(words).region(end, words.length());
        if (m.lookingAt()) {
            token = m.group(1);
            start = m.start(1);
            end = m.end(1);
            return;
        }
        int i = end;
        while (i < words.length() && (words.charAt(i) == ' ' || words.charAt(i) == '\n')) {
            i++;
        }
        start = i;
        token = i == words.length() ? "" : "?";
    }

    private void must(String wanted) throws Fault {
        if (!token.equals(wanted)) {
            throw new Fault(start);
        }
        next();
    }

    private void enter() throws Fault {
        if (open == 5) {
            throw new Fault(start);
        }
        open++;
        next();
    }

    private int e() throws Fault {
        int value = and();
        while (token.equals("or")) {
            next();
            int other = and();
            value = value != 0 || other != 0 ? 1 : 0;
        }
        return value;
    }

    private int and() throws Fault {
        int value = not();
        while (token.equals("and")) {
            next();
            int other = not();
            value = value != 0 && other != 0 ? 1 : 0;
        }
        return value;
    }

    private int not() throws Fault {
        if (token.equals("not")) {
            enter();
            int value = not();
            open--;
            return value == 0 ? 1 : 0;
        }
        int value = sum();
        if (token.equals("<")) {
            next();
            return value < sum() ? 1 : 0;
        }
        if (token.equals("=")) {
            next();
            return value == sum() ? 1 : 0;
        }
        return value;
    }

    private int sum() throws Fault {
        int value = term();
        while (token.equals("+") || token.equals("-")) {
            boolean plus = token.equals("+");
            next();
            int other = term();
            value = plus ? value + other : value - other;
        }
        return value;
    }

    private int term() throws Fault {
        int value = one();
        while (token.equals("*")) {
            next();
            value = value * one();
        }
        return value;
    }

    private int one() throws Fault {
        if (token.matches("[0-9]{1,4}")) {
            int value = Integer.parseInt(token);
            next();
            return value;
        }
        if (token.matches("[a-z]+") && NAMES.contains(" " + token + " ")) {
            int i = 0;
            while (!ORDER[i].equals(token)) {
                i++;
            }
            next();
            return names[i];
        }
        if (token.equals("-")) {
            enter();
            int value = -one();
            open--;
            return value;
        }
        if (token.equals("(")) {
            enter();
            int value = e();
            must(")");
            open--;
            return value;
        }
        throw new Fault(start);
    }
}
