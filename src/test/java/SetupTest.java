import java.util.List;

/** Promises 1 to 5: a new object, add, board, begin, clear. */
public final class SetupTest {
    private static final int LEAST = Integer.MIN_VALUE;
    private static final int MOST = Integer.MAX_VALUE;

    public static void main(String[] args) {
        newObject();
        adding();
        addingWrongly();
        boards();
        boardsWrongly();
        beginning();
        clearing();
        clearingKeepsTheText();
        clearedObjectIsUsedAgain();
        Check.end();
    }

    private static List<Object> seenOfNew() {
        return Check.seen(new CoinStrings());
    }

    private static void newObject() {
        CoinStrings x = new CoinStrings();
        Check.same("left() of a new object", x.left(), 0);
        Check.same("turn() of a new object", x.turn(), 0);
        Check.same("taken(0) of a new object", x.taken(0), 0);
        Check.same("taken(1) of a new object", x.taken(1), 0);
        Check.same("strings(0) of a new object", x.strings(0), 0);
        Check.same("groups() of a new object", x.groups(), 0);
        Check.throwing("at(0) of a new object", Check.INDEX, () -> x.at(0));
        Check.throwing("undo() of a new object", Check.ELEMENT, x::undo);
        Check.same("show() of a new object", x.show(), 0);
        Check.throwing("at(0) of an empty text", Check.INDEX, () -> x.at(0));
    }

    private static void adding() {
        CoinStrings x = new CoinStrings();
        Check.same("add(0, 7)", x.add(0, 7), 0);
        Check.same("add(7, 0)", x.add(7, 0), 1);
        Check.same("add(7, -1)", x.add(7, -1), 2);
        Check.same("add(0, -1)", x.add(0, -1), 3);
        Check.same("text after adding", Check.text(x), "0:0-7;1:0-7;2:7=;3:0=;");
        Check.same("left() after adding", x.left(), 15);
        for (int i = 4; i < 12; i++) {
            Check.same("add(3, -1)", x.add(3, -1), i);
        }
        Check.same("left() with 12", x.left(), 4095);
    }

    private static void addingWrongly() {
        int[][] wrong = {{-1, 0}, {-1, -1}, {8, 0}, {0, 8}, {0, -2}, {0, 0}, {7, 7}, {8, 8}, {8, -1},
            {LEAST, 0}, {MOST, 0}, {0, LEAST}, {0, MOST}};
        CoinStrings fresh = new CoinStrings();
        CoinStrings full = Check.board(2, 2);
        CoinStrings begun = Check.begun(Check.strung(0, 1, 1, -1));
        for (CoinStrings x : List.of(fresh, full, begun)) {
            List<Object> before = Check.seen(x);
            for (int[] ends : wrong) {
                Check.throwing("add(" + ends[0] + ", " + ends[1] + ")", Check.ARGUMENT,
                        () -> x.add(ends[0], ends[1]));
            }
            Check.same("state after wrong adds", Check.seen(x), before);
        }
        for (CoinStrings x : List.of(full, begun)) {
            List<Object> before = Check.seen(x);
            Check.throwing("add(4, 5)", Check.STATE, () -> x.add(4, 5));
            Check.throwing("add(4, -1)", Check.STATE, () -> x.add(4, -1));
            Check.same("state after refused adds", Check.seen(x), before);
        }
        Check.same("add(0, 1) after wrong ones", fresh.add(0, 1), 0);
    }

    private static void boards() {
        board(1, 1, "0:0=;1:0=;2:0=;3:0=;");
        board(1, 2, "0:0=;1:0=;2:0-1;3:0=;4:1=;5:1=;6:1=;");
        board(2, 1, "0:0=;1:0=;2:0=;3:0-1;4:1=;5:1=;6:1=;");
        board(1, 3, "0:0=;1:0=;2:0-1;3:0=;4:1=;5:1-2;6:1=;7:2=;8:2=;9:2=;");
        board(3, 1, "0:0=;1:0=;2:0=;3:0-1;4:1=;5:1=;6:1-2;7:2=;8:2=;9:2=;");
        board(2, 2, "0:0=;1:0=;2:0-1;3:0-2;4:1=;5:1=;6:1-3;7:2=;8:2-3;9:2=;10:3=;11:3=;");
    }

    private static void board(int rows, int columns, String text) {
        String name = "board(" + rows + ", " + columns + ")";
        CoinStrings x = new CoinStrings();
        int count = x.board(rows, columns);
        Check.same(name, count, text.split(";").length);
        Check.same("left() of " + name, x.left(), (1 << count) - 1);
        Check.same("text of " + name, Check.text(x), text);
        for (int coin = 0; coin < 8; coin++) {
            Check.same("strings(" + coin + ") of " + name, x.strings(coin), coin < rows * columns ? 4 : 0);
        }
    }

    private static void boardsWrongly() {
        int[][] wrong = {{0, 1}, {1, 0}, {0, 0}, {-1, 3}, {3, -1}, {-1, -1}, {1, 4}, {4, 1}, {2, 3}, {3, 2}, {3, 3},
            {MOST, 1}, {1, MOST}, {MOST, 2}, {2, MOST}, {MOST, MOST}, {LEAST, LEAST}, {LEAST, 1}, {1, LEAST},
            {65536, 65536}, {1 << 30, 2}, {1431655765, 1}, {1, 1431655765}, {1 << 30, 1 << 30}};
        CoinStrings fresh = new CoinStrings();
        CoinStrings strung = Check.strung(0, 1);
        CoinStrings begun = Check.begun(Check.strung(0, 1, 1, -1));
        for (CoinStrings x : List.of(fresh, strung, begun)) {
            List<Object> before = Check.seen(x);
            for (int[] sides : wrong) {
                Check.throwing("board(" + sides[0] + ", " + sides[1] + ")", Check.ARGUMENT,
                        () -> x.board(sides[0], sides[1]));
            }
            Check.same("state after wrong boards", Check.seen(x), before);
        }
        for (CoinStrings x : List.of(strung, begun)) {
            List<Object> before = Check.seen(x);
            Check.throwing("board(1, 1)", Check.STATE, () -> x.board(1, 1));
            Check.same("state after a refused board", Check.seen(x), before);
        }
        Check.same("board(1, 1) after wrong ones", fresh.board(1, 1), 4);
        Check.same("add(7, -1) to a board", fresh.add(7, -1), 4);
    }

    private static void beginning() {
        CoinStrings x = new CoinStrings();
        Check.throwing("begin() without strings", Check.STATE, x::begin);
        Check.same("add(0, -1) after a refused begin", x.add(0, -1), 0);
        x.begin();
        Check.same("margin() after begin", x.margin(), 1);
        List<Object> before = Check.seen(x);
        Check.throwing("begin() again", Check.STATE, x::begin);
        Check.same("state after a second begin", Check.seen(x), before);
        x.cut(0);
        Check.throwing("begin() at the end", Check.STATE, x::begin);
    }

    private static void clearing() {
        CoinStrings x = Check.begun(Check.strung(0, 1, 1, -1, 1, -1));
        x.cut(1);
        x.cut(0);
        x.clear();
        Check.same("state after clear", Check.seen(x), seenOfNew());
        Check.throwing("undo() after clear", Check.ELEMENT, x::undo);
        Check.throwing("begin() after clear", Check.STATE, x::begin);
        Check.throwing("cut(0) after clear", Check.STATE, () -> x.cut(0));
        x.clear();
        Check.same("state after a second clear", Check.seen(x), seenOfNew());
        CoinStrings strung = Check.strung(0, 1);
        strung.clear();
        Check.same("state after clear before begin", Check.seen(strung), seenOfNew());
    }

    private static void clearingKeepsTheText() {
        CoinStrings x = Check.strung(0, 1);
        x.show();
        x.clear();
        Check.same("text made last, after clear", Check.lastText(x), "0:0-1;");
    }

    private static void clearedObjectIsUsedAgain() {
        CoinStrings x = Check.begun(Check.board(2, 2));
        x.play();
        x.nim();
        x.clear();
        Check.same("board(1, 3) after clear", x.board(1, 3), 10);
        x.begin();
        Check.same("state of a second game", Check.seen(x), Check.seen(Check.begun(Check.board(1, 3))));
        x.clear();
        Check.same("add(5, -1) after clear", x.add(5, -1), 0);
        Check.same("add(5, -1) after clear", x.add(5, -1), 1);
        x.begin();
        Check.same("state of a third game", Check.seen(x), Check.seen(Check.begun(Check.strung(5, -1, 5, -1))));
    }
}
