import java.util.function.IntSupplier;

/** All promises: long runs of games, with wrong calls strewn in, each call answered as the reference answers it. */
public final class ReferenceTest {
    private static final int RUNS = 120;
    private static final int CALLS = 512;
    private static final int[] WILD = {-1, 8, 12, -2, 13, 31, 32, 99, Integer.MAX_VALUE, Integer.MIN_VALUE};

    private final CoinStrings x = new CoinStrings();
    private final Reference due = new Reference();
    private final int run;
    private final Numbers numbers;
    private int calls = 0;

    private ReferenceTest(int run) {
        this.run = run;
        this.numbers = new Numbers(run);
    }

    public static void main(String[] args) {
        for (int run = 0; run < RUNS; run++) {
            new ReferenceTest(run).go();
        }
        Check.end();
    }

    private void go() {
        while (calls < CALLS) {
            setUp();
            begin();
            int moves = numbers.next(0, 30);
            for (int move = 0; move < moves; move++) {
                move();
                ask();
                askForValues();
                ask();
            }
            clear();
        }
    }

    private int wild() {
        return WILD[numbers.next(0, WILD.length - 1)];
    }

    private void setUp() {
        if (numbers.oneOf(8)) {
            board(numbers.next(1, 3), numbers.next(1, 3));
        }
        // Few coins make loops and double strings, many make chains and trees.
        int coins = numbers.next(2, 8);
        int grounds = numbers.next(1, 4);
        int strings = numbers.next(0, 13);
        for (int i = 0; i < strings; i++) {
            add(numbers.next(0, coins - 1), numbers.oneOf(grounds) ? -1 : numbers.next(0, coins - 1));
            if (numbers.oneOf(5)) {
                ask();
            }
            if (numbers.oneOf(8)) {
                move();
            }
        }
    }

    private void move() {
        int what = numbers.next(0, 99);
        if (what < 55) {
            cut(numbers.next(0, 11));
        } else if (what < 75) {
            same("undo()", x::undo, due::undo);
        } else if (what < 85) {
            same("play()", x::play, due::play);
        } else if (what < 90) {
            cut(wild());
        } else if (what < 93) {
            add(numbers.next(-1, 8), numbers.next(-2, 8));
        } else if (what < 95) {
            add(wild(), wild());
        } else if (what < 97) {
            board(numbers.next(0, 4), numbers.next(0, 4));
        } else if (what < 98) {
            board(wild(), wild());
        } else {
            begin();
        }
    }

    private void ask() {
        int i = numbers.oneOf(8) ? wild() : numbers.next(0, 7);
        switch (numbers.next(0, 6)) {
            case 0 -> same("turn()", x::turn, due::turn);
            case 1 -> same("left()", x::left, due::left);
            case 2 -> same("taken(" + i % 3 + ")", () -> x.taken(i % 3), () -> due.taken(i % 3));
            case 3 -> same("strings(" + i + ")", () -> x.strings(i), () -> due.strings(i));
            case 4 -> same("groups()", x::groups, due::groups);
            case 5 -> same("group(" + i % 3 + ")", () -> x.group(i % 3), () -> due.group(i % 3));
            default -> askForText();
        }
    }

    private void askForText() {
        if (numbers.oneOf(2)) {
            same("show()", x::show, due::show);
        }
        int i = numbers.oneOf(8) ? wild() : numbers.next(0, numbers.oneOf(2) ? 75 : 12);
        same("at(" + i + ")", () -> x.at(i), () -> due.at(i));
    }

    private void askForValues() {
        switch (numbers.next(0, 3)) {
            case 0 -> same("margin()", x::margin, due::margin);
            case 1 -> same("good()", x::good, due::good);
            case 2 -> same("nim()", x::nim, due::nim);
            default -> same("mad()", x::mad, due::mad);
        }
    }

    private void add(int a, int b) {
        same("add(" + a + ", " + b + ")", () -> x.add(a, b), () -> due.add(a, b));
    }

    private void board(int rows, int columns) {
        same("board(" + rows + ", " + columns + ")", () -> x.board(rows, columns), () -> due.board(rows, columns));
    }

    private void begin() {
        same("begin()", () -> {
            x.begin();
            return 0;
        }, due::begin);
    }

    private void cut(int i) {
        same("cut(" + i + ")", () -> x.cut(i), () -> due.cut(i));
    }

    private void clear() {
        same("clear()", () -> {
            x.clear();
            return 0;
        }, due::clear);
    }

    private void same(String call, IntSupplier got, IntSupplier want) {
        calls++;
        // What an object answers to more calls is free.
        if (calls <= CALLS) {
            Check.same("run " + run + ", call " + calls + ": " + call, Check.outcome(got), Check.outcome(want));
        }
    }
}
