import java.util.function.IntSupplier;

/** All promises: long runs of games, with wrong calls strewn in, each call answered as the reference answers it. */
public final class ReferenceTest {
    private static final int RUNS = 120;
    private static final int CALLS = 512;
    private static final int[] WILD = {-1, 8, 12, -2, 13, 31, 32, 99, Integer.MAX_VALUE, Integer.MIN_VALUE};

    private final CoinStrings x = new CoinStrings();
    private final Reference due = new Reference();
    private final int run;
    private int calls = 0;
    private long seed;

    private ReferenceTest(int run) {
        this.run = run;
        this.seed = run;
    }

    public static void main(String[] args) {
        for (int run = 0; run < RUNS; run++) {
            new ReferenceTest(run).go();
        }
        Check.end();
    }

    private void go() {
        while (calls < CALLS) {
            setUp();
            begin();
            int moves = number(0, 30);
            for (int move = 0; move < moves; move++) {
                move();
                ask();
                askForValues();
                ask();
            }
            clear();
        }
    }

    /** The same numbers in every run of the test, so that what it finds can be found again. */
    private int number(int from, int to) {
        seed = seed * 6364136223846793005L + 1442695040888963407L;
        return from + (int) ((seed >>> 33) % (to - from + 1));
    }

    private boolean oneOf(int many) {
        return number(1, many) == 1;
    }

    private int wild() {
        return WILD[number(0, WILD.length - 1)];
    }

    private void setUp() {
        if (oneOf(8)) {
            board(number(1, 3), number(1, 3));
        }
        // Few coins make loops and double strings, many make chains and trees.
        int coins = number(2, 8);
        int grounds = number(1, 4);
        int strings = number(0, 13);
        for (int i = 0; i < strings; i++) {
            add(number(0, coins - 1), oneOf(grounds) ? -1 : number(0, coins - 1));
            if (oneOf(5)) {
                ask();
            }
            if (oneOf(8)) {
                move();
            }
        }
    }

    private void move() {
        int what = number(0, 99);
        if (what < 55) {
            cut(number(0, 11));
        } else if (what < 75) {
            same("undo()", x::undo, due::undo);
        } else if (what < 85) {
            same("play()", x::play, due::play);
        } else if (what < 90) {
            cut(wild());
        } else if (what < 93) {
            add(number(-1, 8), number(-2, 8));
        } else if (what < 95) {
            add(wild(), wild());
        } else if (what < 97) {
            board(number(0, 4), number(0, 4));
        } else if (what < 98) {
            board(wild(), wild());
        } else {
            begin();
        }
    }

    private void ask() {
        int i = oneOf(8) ? wild() : number(0, 7);
        switch (number(0, 6)) {
            case 0 -> same("turn()", x::turn, due::turn);
            case 1 -> same("left()", x::left, due::left);
            case 2 -> same("taken(" + i % 3 + ")", () -> x.taken(i % 3), () -> due.taken(i % 3));
            case 3 -> same("strings(" + i + ")", () -> x.strings(i), () -> due.strings(i));
            case 4 -> same("groups()", x::groups, due::groups);
            case 5 -> same("group(" + i % 3 + ")", () -> x.group(i % 3), () -> due.group(i % 3));
            default -> askForText();
        }
    }

    private void askForText() {
        if (oneOf(2)) {
            same("show()", x::show, due::show);
        }
        int i = oneOf(8) ? wild() : number(0, oneOf(2) ? 75 : 12);
        same("at(" + i + ")", () -> x.at(i), () -> due.at(i));
    }

    private void askForValues() {
        switch (number(0, 3)) {
            case 0 -> same("margin()", x::margin, due::margin);
            case 1 -> same("good()", x::good, due::good);
            case 2 -> same("nim()", x::nim, due::nim);
            default -> same("mad()", x::mad, due::mad);
        }
    }

    private void add(int a, int b) {
        same("add(" + a + ", " + b + ")", () -> x.add(a, b), () -> due.add(a, b));
    }

    private void board(int rows, int columns) {
        same("board(" + rows + ", " + columns + ")", () -> x.board(rows, columns), () -> due.board(rows, columns));
    }

    private void begin() {
        same("begin()", () -> {
            x.begin();
            return 0;
        }, due::begin);
    }

    private void cut(int i) {
        same("cut(" + i + ")", () -> x.cut(i), () -> due.cut(i));
    }

    private void clear() {
        same("clear()", () -> {
            x.clear();
            return 0;
        }, due::clear);
    }

    private void same(String call, IntSupplier got, IntSupplier want) {
        calls++;
        // What an object answers to more calls is free.
        if (calls <= CALLS) {
            Check.same("run " + run + ", call " + calls + ": " + call, Check.outcome(got), Check.outcome(want));
        }
    }
}
