import java.util.ArrayList;
import java.util.Arrays;
import java.util.List;
import java.util.function.IntSupplier;

/** Counts the answers that are not as due, prints them, and ends the test with exit code 1 if there was one. */
final class Check {
    static final Class<? extends RuntimeException> ARGUMENT = IllegalArgumentException.class;
    static final Class<? extends RuntimeException> STATE = IllegalStateException.class;
    static final Class<? extends RuntimeException> INDEX = IndexOutOfBoundsException.class;
    static final Class<? extends RuntimeException> ELEMENT = java.util.NoSuchElementException.class;

    /** Arguments that lie outside everything, and such as a shift or a sum would bring back inside. */
    static final int[] FAR = {31, 32, 33, -32, 64, 256, Integer.MAX_VALUE, Integer.MAX_VALUE - 1,
        Integer.MIN_VALUE, Integer.MIN_VALUE + 1};

    private static int wrong = 0;
    private static String sentence = "";

    private Check() {
    }

    static void same(String what, Object got, Object due) {
        if (!due.equals(got)) {
            wrong++;
            System.out.println(sentence + what + " answered " + got + ", due is " + due);
        }
    }

    /** The test of what the document says in these words, which are told with all that is wrong in it. */
    static void says(String words, Runnable test) {
        sentence = "'" + words + "': ";
        same("the test", outcome(() -> {
            test.run();
            return 0;
        }), 0);
        sentence = "";
    }

    static void throwing(String what, Class<? extends RuntimeException> due, Runnable call) {
        same(what, outcome(() -> {
            call.run();
            return 0;
        }), due.getName());
    }

    /** The number that a call answers, or the name of the very class that it throws. */
    static Object outcome(IntSupplier call) {
        try {
            return call.getAsInt();
        } catch (RuntimeException e) {
            return e.getClass().getName();
        }
    }

    /** All that can be seen of an object without changing it. */
    static List<Object> seen(CoinStrings x) {
        List<Object> all = new ArrayList<>();
        all.add(x.left());
        all.add(x.turn());
        all.add(x.taken(0));
        all.add(x.taken(1));
        for (int coin = 0; coin < 8; coin++) {
            all.add(x.strings(coin));
        }
        all.add(outcome(x::margin));
        all.add(outcome(x::good));
        all.add(outcome(x::nim));
        all.add(outcome(x::mad));
        all.add(groups(x));
        all.add(lastText(x));
        return all;
    }

    /** All that can be seen of an object, now and after each undo until none is left. */
    static List<Object> past(CoinStrings x) {
        List<Object> all = new ArrayList<>();
        all.add(seen(x));
        while (outcome(x::undo) instanceof Integer string) {
            all.add(string);
            all.add(seen(x));
        }
        return all;
    }

    /** Left, turn and takings in one answer. */
    static void state(CoinStrings x, int left, int turn, int taken0, int taken1) {
        String got = x.left() + " " + x.turn() + " " + x.taken(0) + " " + x.taken(1);
        same("left, turn, taken", got, left + " " + turn + " " + taken0 + " " + taken1);
    }

    /** The given arguments and the far ones. */
    static int[] andFar(int... arguments) {
        int[] all = Arrays.copyOf(arguments, arguments.length + FAR.length);
        System.arraycopy(FAR, 0, all, arguments.length, FAR.length);
        return all;
    }

    /** All that group() answers. */
    static List<Integer> groups(CoinStrings x) {
        List<Integer> answers = new ArrayList<>();
        for (int g = 0; g < x.groups(); g++) {
            answers.add(x.group(g));
        }
        return answers;
    }

    /** The text that at() answers, without making it anew. */
    static String lastText(CoinStrings x) {
        StringBuilder text = new StringBuilder();
        int i = 0;
        while (outcome(new At(x, i)) instanceof Integer character) {
            text.append((char) (int) character);
            i++;
        }
        return text.toString();
    }

    static String text(CoinStrings x) {
        int length = x.show();
        String text = lastText(x);
        same("show() before " + text, length, text.length());
        return text;
    }

    static CoinStrings board(int rows, int columns) {
        CoinStrings x = new CoinStrings();
        x.board(rows, columns);
        return x;
    }

    /** A game that is not begun, of strings from pairs of ends. */
    static CoinStrings strung(int... ends) {
        CoinStrings x = new CoinStrings();
        for (int i = 0; i + 1 < ends.length; i += 2) {
            x.add(ends[i], ends[i + 1]);
        }
        return x;
    }

    static CoinStrings begun(CoinStrings x) {
        x.begin();
        return x;
    }

    static void end() {
        if (wrong > 0) {
            System.exit(1);
        }
    }

    private record At(CoinStrings x, int i) implements IntSupplier {
        @Override
        public int getAsInt() {
            return x.at(i);
        }
    }
}
