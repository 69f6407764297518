import java.util.ArrayList;
import java.util.List;
import java.util.function.IntSupplier;

/** Counts the answers that are not as due, prints them, and ends the test with exit code 1 if there was one. */
final class Check {
    static final Class<? extends RuntimeException> ARGUMENT = IllegalArgumentException.class;
    static final Class<? extends RuntimeException> STATE = IllegalStateException.class;
    static final Class<? extends RuntimeException> INDEX = IndexOutOfBoundsException.class;
    static final Class<? extends RuntimeException> ELEMENT = java.util.NoSuchElementException.class;

    private static int wrong = 0;

    private Check() {
    }

    static void same(String what, Object got, Object due) {
        if (!due.equals(got)) {
            wrong++;
            System.out.println(what + " answered " + got + ", due is " + due);
        }
    }

    static void throwing(String what, Class<? extends RuntimeException> due, Runnable call) {
        same(what, outcome(() -> {
            call.run();
            return 0;
        }), due.getName());
    }

    /** The number that a call answers, or the name of the very class that it throws. */
    static Object outcome(IntSupplier call) {
        try {
            return call.getAsInt();
        } catch (RuntimeException e) {
            return e.getClass().getName();
        }
    }

    /** All that can be seen of an object without changing it. */
    static List<Object> seen(CoinStrings x) {
        List<Object> all = new ArrayList<>();
        all.add(x.left());
        all.add(x.turn());
        all.add(x.taken(0));
        all.add(x.taken(1));
        for (int coin = 0; coin < 8; coin++) {
            all.add(x.strings(coin));
        }
        all.add(outcome(x::margin));
        all.add(outcome(x::good));
        all.add(outcome(x::nim));
        all.add(outcome(x::mad));
        all.add(x.groups());
        for (int g = 0; g < x.groups(); g++) {
            all.add(x.group(g));
        }
        all.add(lastText(x));
        return all;
    }

    /** The text that at() answers, without making it anew. */
    static String lastText(CoinStrings x) {
        StringBuilder text = new StringBuilder();
        int i = 0;
        while (outcome(new At(x, i)) instanceof Integer character) {
            text.append((char) (int) character);
            i++;
        }
        return text.toString();
    }

    static String text(CoinStrings x) {
        int length = x.show();
        String text = lastText(x);
        same("show() before " + text, length, text.length());
        return text;
    }

    static CoinStrings board(int rows, int columns) {
        CoinStrings x = new CoinStrings();
        x.board(rows, columns);
        return x;
    }

    /** A game that is not begun, of strings from pairs of ends. */
    static CoinStrings strung(int... ends) {
        CoinStrings x = new CoinStrings();
        for (int i = 0; i + 1 < ends.length; i += 2) {
            x.add(ends[i], ends[i + 1]);
        }
        return x;
    }

    static CoinStrings begun(CoinStrings x) {
        x.begin();
        return x;
    }

    static void end() {
        if (wrong > 0) {
            System.exit(1);
        }
    }

    private record At(CoinStrings x, int i) implements IntSupplier {
        @Override
        public int getAsInt() {
            return x.at(i);
        }
    }
}
